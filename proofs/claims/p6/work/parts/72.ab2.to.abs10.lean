section
/-! ===== the abstract run, second part ===== -/
/-! cells -/
def ab_tg (R : ab_R) (r : Nat) (k : Nat → Nat → Bool) : Bool := match ab_nR R r with
  | some q => k q.1 q.2
  | none => false
def ab_lk (Y : ab_Y) (r : Nat) (x : ab_I) : ab_m → Option ab_V
  | [] => none
  | (r2, x2, v) :: t => cond (Nat.beq r2 r && ab_sm Y x2 x) (some v) (ab_lk Y r x t)
def ab_hln (t a : Nat) (b : Int) : Nat → Int → Int → Int → (Int → Int → Bool) → Bool
  | 0, _, l, h, k => k l h
  | n + 1, x, l, h, k => sx_fi (ab_mn l (ab_rg t (Int.ofNat a * x + b).toNat).1) fun l => sx_fi (ab_mx h (ab_rg t (Int.ofNat a * x + b).toNat).2) fun h => sx_fi (x + 1) fun x => ab_hln t a b n x l h k
/-- the bounds of what may stand at x in a cell of tag t -/
def ab_hl (Y : ab_Y) (t : Nat) (x : ab_I) (k : Int → Int → Bool) : Bool := match x with
  | .inl z => k (ab_rg t z.toNat).1 (ab_rg t z.toNat).2
  | .inr (i, a, b) => cond (ab_per t) (match ab_ny Y i with
    | none => false
    | some q => cond (sx_le (q.2.1 - q.1) (.ofNat 1100)) (ab_hln t a b (q.2.1 + 1 - q.1).toNat q.1 (ab_rg t (Int.ofNat a * q.1 + b).toNat).1 (ab_rg t (Int.ofNat a * q.1 + b).toNat).2 k) false) (cond (Nat.ble 100 (Nat.mod t 1000)) (k (ab_rga t).1 (ab_rga t).2) false)
def ab_rdi (Y : ab_Y) (R : ab_R) (m : ab_m) (r : Nat) (x : ab_I) (k : ab_I → ab_Y → ab_m → Bool) : Bool := match ab_lk Y r x m with
  | some (.inl v) => k v Y m
  | some (.inr _) => false
  | none => ab_tg R r fun t _ => cond (Nat.beq t 0 || (Nat.beq t 1 || Nat.beq (Nat.mod t 1000) 50)) false (ab_hl Y t x fun lo hi => ab_fr Y lo hi [] fun v Y => k v Y ((r, x, .inl v) :: m))
def ab_rdr (Y : ab_Y) (R : ab_R) (m : ab_m) (r : Nat) (x : ab_I) (k : Nat → ab_R → ab_m → Bool) : Bool := match ab_lk Y r x m with
  | some (.inr (.inr u)) => k u R m
  | some _ => false
  | none => ab_tg R r fun t n => cond (Nat.beq t 0 || (Nat.beq t 1 || Nat.beq (Nat.mod t 1000) 50)) false (ab_iv Y x fun lo hi => cond (cond (Nat.ble 100 (Nat.mod t 1000)) (sx_le (.ofNat 0) lo && (!sx_le (.ofNat n) hi)) (sx_eq lo hi)) (match ab_rf t lo.toNat with
    | some q => k R.length (R ++ [q]) ((r, x, .inr (.inr R.length)) :: m)
    | none => false) false)
/-- surely not the same place -/
def ab_dj (Y : ab_Y) (x y : ab_I) : Bool := ab_ge Y x y (.ofNat 1) || (ab_ge Y y x (.ofNat 1) || (match x, y with
  | .inr (i, a, b), .inr (j, c, d) => Nat.beq i j && (Nat.beq a c && !sx_eq b d)
  | .inr (_, a, b), .inl z => !sx_eq ((z - b) % Int.ofNat a) (.ofNat 0)
  | .inl z, .inr (_, a, b) => !sx_eq ((z - b) % Int.ofNat a) (.ofNat 0)
  | _, _ => false))
def ab_wk (t : Nat) : Bool := Nat.beq t ab_rdt
/-- what is still known behind a write of v (none: a reference) at x of r, a cell of tag t -/
def ab_kl (R : ab_R) (t r : Nat) (x : ab_I) (v : Option ab_I) : ab_m → ab_Y → (ab_m → ab_Y → Bool) → Bool
  | [], Y, k => k [] Y
  | (r2, x2, v2) :: rest, Y, k => ab_tg R r2 fun t2 _ => cond (!Nat.beq t2 t || ab_dj Y x2 x) (ab_kl R t r x v rest Y fun m Y => k ((r2, x2, v2) :: m) Y) (cond (ab_wk t && (Nat.beq r2 r && !ab_sm Y x2 x)) (match v, v2 with
    | some v, .inl u => ab_iv Y v fun a b => ab_iv Y u fun c d => ab_fr Y (ab_mn a c) (ab_mx b d) [] fun q Y => ab_kl R t r x (some v) rest Y fun m Y => k ((r2, x2, .inl q) :: m) Y
    | v, _ => ab_kl R t r x v rest Y k) (ab_kl R t r x v rest Y k))
def ab_fa (t a : Nat) (b lo hi : Int) : Nat → Int → Bool
  | 0, _ => true
  | n + 1, x => (sx_le (ab_rg t (Int.ofNat a * x + b).toNat).1 lo && sx_le hi (ab_rg t (Int.ofNat a * x + b).toNat).2) && sx_fi (x + 1) fun x => ab_fa t a b lo hi n x
def ab_fc (t a : Nat) (b : Int) (t2 a2 : Nat) (b2 : Int) : Nat → Int → Bool
  | 0, _ => true
  | n + 1, x => (sx_le (ab_rg t (Int.ofNat a * x + b).toNat).1 (ab_rg t2 (Int.ofNat a2 * x + b2).toNat).1 && sx_le (ab_rg t2 (Int.ofNat a2 * x + b2).toNat).2 (ab_rg t (Int.ofNat a * x + b).toNat).2) && sx_fi (x + 1) fun x => ab_fc t a b t2 a2 b2 n x
/-- may v stand at x of a cell of tag t -/
def ab_ft (Y : ab_Y) (R : ab_R) (m : ab_m) (t : Nat) (x v : ab_I) : Bool := match x with
  | .inl z => ab_ge Y v (.inl (ab_rg t z.toNat).1) (.ofNat 0) && ab_le Y v (ab_rg t z.toNat).2
  | .inr (i, a, b) => cond (ab_per t) (match ab_ny Y i with
    | none => false
    | some q => cond (sx_le (q.2.1 - q.1) (.ofNat 1100)) (ab_iv Y v fun lo hi => ab_fa t a b lo hi (q.2.1 + 1 - q.1).toNat q.1 || m.any (fun e => match e with
      | (r2, .inr (i2, a2, b2), .inl v2) => Nat.beq i2 i && (ab_ie v2 v && ab_tg R r2 fun t2 _ => Nat.blt 1 t2 && (!Nat.beq t2 50 && ab_fc t a b t2 a2 b2 (q.2.1 + 1 - q.1).toNat q.1))
      | _ => false)) false) (cond (Nat.ble 100 (Nat.mod t 1000)) (ab_ge Y v (.inl (ab_rga t).1) (.ofNat 0) && ab_le Y v (ab_rga t).2) false)
def ab_cw (W : List (Nat × Nat × Nat)) (t : Nat) (lo hi : Int) : Bool := W.any (fun q => Nat.beq q.1 t && (sx_le (.ofNat q.2.1) lo && sx_le hi (.ofNat q.2.2)))
def ab_wri (W : List (Nat × Nat × Nat)) (Y : ab_Y) (R : ab_R) (m : ab_m) (r : Nat) (x v : ab_I) (k : ab_Y → ab_m → Bool) : Bool := ab_tg R r fun t _ => ab_iv Y x fun lo hi => cond (Nat.blt t 900000 && (Nat.blt 1 t && (!Nat.beq t 50 && (ab_cw W t lo hi && ab_ft Y R m t x v)))) (ab_kl R t r x (some v) m Y fun m Y => k Y ((r, x, .inl v) :: m)) false
def ab_ts (p q : Nat × Nat) : Bool := (Nat.beq p.1 q.1 && Nat.beq p.2 q.2) || ((Nat.beq p.1 0 && (Nat.beq q.1 0 || (Nat.beq q.1 1 || Nat.beq (Nat.mod q.1 1000) 50))) || (Nat.beq p.1 50 && Nat.beq (Nat.mod q.1 1000) 50))
def ab_wrr (W : List (Nat × Nat × Nat)) (Y : ab_Y) (R : ab_R) (m : ab_m) (r : Nat) (x : ab_I) (u : Nat) (k : ab_Y → ab_m → Bool) : Bool := ab_tg R r fun t _ => ab_tg R u fun tu nu => ab_iv Y x fun lo hi => cond (Nat.blt t 900000 && (Nat.blt 1 t && (!Nat.beq t 50 && (ab_cw W t lo hi && cond (Nat.ble 100 (Nat.mod t 1000)) true (sx_eq lo hi))))) (match ab_rf t lo.toNat with
  | none => false
  | some q => cond (ab_ts q (tu, nu)) (ab_kl R t r x none m Y fun m Y => k Y ((r, x, .inr (.inr u)) :: m)) false) false
/-! patterns -/
abbrev ab_sg : Type := List (Option ab_I)
abbrev ab_rr : Type := List (Option Nat)
def ab_cp (a : Nat) (b : Int) (t : ab_I) : ab_I := match t with
  | .inl z => .inl (Int.ofNat a * z + b)
  | .inr (i, f, q) => .inr (i, a * f, Int.ofNat a * q + b)
def ab_mv (Rp : ab_R) (Y : ab_Y) (R : ab_R) (p u : ab_V) (sg : ab_sg) (rf : ab_rr) (k : ab_sg → ab_rr → Bool) : Bool := match p, u with
  | .inl (.inl z), .inl x => ab_iv Y x fun lo hi => cond (sx_eq lo z && sx_eq hi z) (k sg rf) false
  | .inl (.inr (i, a, b)), .inl x => match sx_nt sg i with
    | some t => cond (ab_sm Y (ab_cp a b t) x) (k sg rf) false
    | none => cond (Nat.beq a 1 && (sx_eq b (.ofNat 0) && Nat.blt i sg.length)) (k (sg.set i (some x)) rf) false
  | .inr (.inl _), .inr (.inl _) => k sg rf
  | .inr (.inr j), .inr (.inr u) => match sx_nt rf j with
    | some u' => cond (Nat.beq u u') (k sg rf) false
    | none => match ab_nR Rp j, ab_nR R u with
      | some p, some q => cond (ab_ts p q && Nat.blt j rf.length) (k sg (rf.set j (some u))) false
      | _, _ => false
  | _, _ => false
def ab_mvs (Rp : ab_R) (Y : ab_Y) (R : ab_R) : ab_L → ab_L → ab_sg → ab_rr → (ab_sg → ab_rr → Bool) → Bool
  | [], [], sg, rf, k => k sg rf
  | none :: ps, _ :: us, sg, rf, k => ab_mvs Rp Y R ps us sg rf k
  | some p :: ps, some u :: us, sg, rf, k => ab_mv Rp Y R p u sg rf fun sg rf => ab_mvs Rp Y R ps us sg rf k
  | _, _, _, _, _ => false
def ab_mms (Rp : ab_R) : List (Nat × Nat × ab_V) → ab_Y → ab_R → ab_m → ab_sg → ab_rr → (ab_sg → ab_rr → ab_Y → ab_R → ab_m → Bool) → Bool
  | [], Y, R, m, sg, rf, k => k sg rf Y R m
  | (r, x, .inl p) :: t, Y, R, m, sg, rf, k => match sx_nt rf r with
    | none => false
    | some r' => ab_rdi Y R m r' (.inl (.ofNat x)) fun v Y m => ab_mv Rp Y R (.inl p) (.inl v) sg rf fun sg rf => ab_mms Rp t Y R m sg rf k
  | (r, x, .inr (.inr j)) :: t, Y, R, m, sg, rf, k => match sx_nt rf r with
    | none => false
    | some r' => ab_rdr Y R m r' (.inl (.ofNat x)) fun u R m => ab_mv Rp Y R (.inr (.inr j)) (.inr (.inr u)) sg rf fun sg rf => ab_mms Rp t Y R m sg rf k
  | (_, _, .inr (.inl _)) :: _, _, _, _, _, _, _ => false
def ab_mb (Y : ab_Y) (sg : ab_sg) : ab_Y → ab_sg → Bool
  | [], [] => true
  | (lo, hi, rel) :: t, some x :: g => ab_ge Y x (.inl lo) (.ofNat 0) && (ab_le Y x hi && (rel.all (fun r => match sx_nt sg r.1 with
    | some y => ab_ge Y x y r.2
    | none => false) && ab_mb Y sg t g))
  | _, _ => false
def ab_mt (P : ab_pt) (us : ab_L) (sg : ab_sg) (rf : ab_rr) (Y : ab_Y) (R : ab_R) (m : ab_m) (k : ab_sg → ab_rr → ab_Y → ab_R → ab_m → Bool) : Bool :=
  ab_mvs P.2.1 Y R P.2.2.2 us sg rf fun sg rf => ab_mms P.2.1 P.2.2.1 Y R m sg rf fun sg rf Y R m => cond (ab_mb Y sg P.1 sg && (rf.all Option.isSome && Nat.beq rf.length P.2.1.length)) (k sg rf Y R m) false
/-! what comes back -/
def ab_xx (Y : ab_Y) (x : ab_I) (X : ab_X) : Bool := match X with
  | .inl z => ab_sm Y x (.inl z)
  | .inr (.inl (j, b)) => ab_sm Y x (.inr (j, 1, b))
  | .inr (.inr (lo, hi, rel)) => ab_ge Y x (.inl lo) (.ofNat 0) && (ab_le Y x hi && (match rel with
    | none => true
    | some (j, d) => ab_ge Y x (.inr (j, 1, .ofNat 0)) d))
def ab_pm (R : ab_R) : List (Nat × Nat × ab_X) → ab_Y → ab_m → Bool
  | [], _, _ => true
  | (r, x, X) :: t, Y, m => ab_rdi Y R m r (.inl (.ofNat x)) fun v Y m => ab_xx Y v X && ab_pm R t Y m
def ab_pr (Y : ab_Y) (R : ab_R) (p : Option (ab_X ⊕ (Unit ⊕ (Nat × Nat)))) (r : Option ab_V) : Bool := match p, r with
  | none, none => true
  | some (.inl X), some (.inl x) => ab_xx Y x X
  | some (.inr (.inl _)), some (.inr (.inl _)) => true
  | some (.inr (.inr q)), some (.inr (.inr u)) => ab_tg R u fun t n => ab_ts q (t, n)
  | _, _ => false
/-- a number told, in the signs of the caller -/
def ab_xi (sg : ab_sg) (Y : ab_Y) (X : ab_X) (k : ab_I → ab_Y → Bool) : Bool := match X with
  | .inl z => k (.inl z) Y
  | .inr (.inl (j, b)) => match sx_nt sg j with
    | none => false
    | some (.inl z) => sx_fi (z + b) fun z => k (.inl z) Y
    | some (.inr (i, a, q)) => ab_c1 i a (q + b) fun v => k v Y
  | .inr (.inr (lo, hi, none)) => ab_fr Y lo hi [] k
  | .inr (.inr (lo, hi, some (j, d))) => match sx_nt sg j with
    | none => false
    | some (.inl z) => ab_fr Y (ab_mx lo (z + d)) hi [] k
    | some (.inr (i, 1, q)) => sx_fi (q + d) fun d => ab_fr Y lo hi [(i, d)] k
    | some (.inr _) => ab_fr Y lo hi [] k
def ab_pi (sg : ab_sg) (rf : ab_rr) : List (Nat × Nat × ab_X) → ab_Y → ab_m → (ab_Y → ab_m → Bool) → Bool
  | [], Y, m, k => k Y m
  | (r, x, X) :: t, Y, m, k => match sx_nt rf r with
    | none => false
    | some r' => ab_xi sg Y X fun v Y => ab_pi sg rf t Y ((r', .inl (.ofNat x), .inl v) :: m) k
def ab_ri (sg : ab_sg) (Y : ab_Y) (R : ab_R) (p : Option (ab_X ⊕ (Unit ⊕ (Nat × Nat)))) (k : Option ab_V → ab_Y → ab_R → Bool) : Bool := match p with
  | none => k none Y R
  | some (.inl X) => ab_xi sg Y X fun v Y => k (some (.inl v)) Y R
  | some (.inr (.inl _)) => k (some (.inr (.inl ()))) Y R
  | some (.inr (.inr q)) => k (some (.inr (.inr R.length))) Y (R ++ [q])
def ab_kw (W : List (Nat × Nat × Nat)) (Y : ab_Y) (R : ab_R) (m : ab_m) : ab_m := m.filter (fun e => ab_tg R e.1 fun t _ => Nat.blt 1 t && (!Nat.beq t 50 && ab_iv Y e.2.1 fun lo hi => !(W.any (fun q => Nat.beq q.1 t && (sx_le lo (.ofNat q.2.2) && sx_le (.ofNat q.2.1) hi)))))
/-! measures -/
def ab_sv (sg : ab_sg) (x : ab_I) : Option ab_I := match x with
  | .inl z => some (.inl z)
  | .inr (i, a, b) => match sx_nt sg i with
    | none => none
    | some t => some (ab_cp a b t)
def ab_gm (Y : ab_Y) (u : ab_I) (du : Nat) (v : ab_I) (dv : Nat) : Bool := match du, dv with
  | 0, 0 => ab_ge Y u v (.ofNat 1) && ab_ge Y v (.inl (.ofNat 0)) (.ofNat 0)
  | 1, 1 => ab_ge Y v u (.ofNat 1) && ab_le Y u (.ofNat 2147483647)
  | 2, 2 => ab_ge Y u v (.ofNat 1) && ab_ge Y v (.inl (.negSucc 2147483647)) (.ofNat 0)
  | 1, 0 => match v with
    | .inl (.ofNat z) => ab_le Y u (Int.ofNat 2147483647 - Int.ofNat z)
    | _ => false
  | 2, 0 => match v with
    | .inl (.ofNat z) => ab_ge Y u (.inl (Int.ofNat z + Int.negSucc 2147483646)) (.ofNat 0)
    | _ => false
  | 0, 1 => match u with
    | .inl (.ofNat z) => Nat.ble 1 z && ab_ge Y v (.inl (Int.ofNat 2147483649 - Int.ofNat z)) (.ofNat 0)
    | _ => false
  | 0, 2 => match u with
    | .inl (.ofNat z) => Nat.ble 1 z && ab_le Y v (Int.ofNat z - Int.ofNat 2147483649)
    | _ => false
  | _, _ => false
def ab_ld (Y : ab_Y) (sg : ab_sg) : List (ab_I × Nat) → List (ab_I × Nat) → Bool
  | (u, du) :: A, (v, dv) :: B => match ab_sv sg v with
    | none => false
    | some v => cond (ab_gm Y u du v dv) true (cond (Nat.beq du dv && ab_sm Y u v) (ab_ld Y sg A B) false)
  | _, _ => false
/-! calls -/
def ab_cat : List ab_V → Nat
  | [] => 0
  | .inr (.inl _) :: t => 2 + ab_cat t
  | _ :: t => 1 + ab_cat t
def ab_en : List ab_V → Nat → ab_L
  | [], n => List.replicate n none
  | .inr (.inl w) :: t, n => some (.inr (.inl w)) :: none :: ab_en t (n - 2)
  | .inl z :: t, n => some (.inl z) :: ab_en t (n - 1)
  | .inr (.inr r) :: t, n => some (.inr (.inr r)) :: ab_en t (n - 1)
def ab_idr (n : Nat) : Nat → ab_sg
  | 0 => []
  | k + 1 => some (.inr (n, 1, .ofNat 0)) :: ab_idr (n + 1) k
def ab_idq (n : Nat) : Nat → ab_rr
  | 0 => []
  | k + 1 => some n :: ab_idq (n + 1) k
def ab_rk : ab_R → ab_R → Nat → Bool
  | _, _, 0 => true
  | p :: ps, q :: qs, n + 1 => ab_ts p q && ab_rk ps qs n
  | _, _, _ => false
def ab_xk (k : Nat) (X : ab_X) : Bool := match X with
  | .inl _ => true
  | .inr (.inl (j, _)) => Nat.blt j k
  | .inr (.inr (_, _, none)) => true
  | .inr (.inr (_, _, some (j, _))) => Nat.blt j k
def ab_k0 (k : Nat) (p : Option (ab_X ⊕ (Unit ⊕ (Nat × Nat)))) : Bool := match p with
  | some (.inl X) => ab_xk k X
  | _ => true
def ab_pk (c : ab_co) (p : ab_po) : Bool := ab_k0 (ab_p c).1.length p.1 && p.2.all (fun e => Nat.blt e.1 (ab_p c).2.1.length && ab_xk (ab_p c).1.length e.2.2)
/-- an arrival at a cut -/
def ab_arr (c : ab_co) (A : Option (List (ab_I × Nat))) (i : Nat) (L : ab_L) (st : List ab_V) (Y : ab_Y) (R : ab_R) (m : ab_m) : Bool := st.isEmpty && (ab_c c).any (fun b => Nat.beq b.1 i && (ab_rk b.2.1.2.1 R (ab_p c).2.1.length && ab_mt b.2.1 L (ab_idr 0 (ab_p c).1.length ++ List.replicate (b.2.1.1.length - (ab_p c).1.length) none) (ab_idq 0 (ab_p c).2.1.length ++ List.replicate (b.2.1.2.1.length - (ab_p c).2.1.length) none) Y R m fun sg _ Y _ _ => match A with
  | none => true
  | some A => ab_ld Y sg A b.2.2))
def ab_ret (c : ab_co) (K : ab_K) (fs : List ab_F) (Y : ab_Y) (R : ab_R) (m : ab_m) (E : ab_E) (r : Option ab_V) : Bool := match fs with
  | [] => (ab_o c).any (fun p => ab_pk c p && (ab_pr Y R p.1 r && ab_pm R p.2 Y m))
  | (y, d, i, rest, L, st) :: fs => match r with
    | none => K y d i rest L st fs Y R m E
    | some v => K y d i rest L (v :: st) fs Y R m E
def ab_ctr (c : ab_co) (kk : Option ab_V → ab_Y → ab_R → ab_m → Bool) (d : Nat) (Y : ab_Y) (R : ab_R) (m : ab_m) (f : Nat) (av : List ab_V) (q : ab_co) : Bool := Nat.beq (ab_y q) f && (Nat.blt (ab_h q) d && ((ab_w q).all (fun e => ab_cw (ab_w c) e.1 (.ofNat e.2.1) (.ofNat e.2.2)) && ab_mt (ab_p q) (av.map some) (List.replicate (ab_p q).1.length none) (List.replicate (ab_p q).2.1.length none) Y R m fun sg rf Y R m => (ab_o q).all (fun p => ab_pi sg rf p.2 Y (ab_kw (ab_w q) Y R m) fun Y m => ab_ri sg Y R p.1 fun r Y R => kk r Y R m)))
/-- a call: by the contracts of the method, or its code -/
def ab_call (c : ab_co) (id : Nat) (K : ab_K) (y d i : Nat) (rest : List mj_E) (L : ab_L) (st : List ab_V) (fs : List ab_F) (Y : ab_Y) (R : ab_R) (m : ab_m) (E : ab_E) (f : Nat) (av : List ab_V) : Bool := cond (Nat.ble (ab_cat st) 8 && (Nat.beq (mj_tab f).2.2.2.2.2.2.1 0 && (Nat.beq (mj_tab f).2.2.2.2.2.2.2 0 && Nat.ble (ab_cat av) (mj_tab f).2.2.1))) (match ab_by f with
  | [] => match d with
    | 0 => false
    | d + 1 => K f d 0 (ab_full f) (ab_en av (mj_tab f).2.2.1) [] ((y, d + 1, i, rest, L, st) :: fs) Y R m E
  | ids => ids.any (fun j => Nat.blt j id && ab_ctr c (fun r Y R m => match r with
    | none => K y d i rest L st fs Y R m E
    | some v => K y d i rest L (v :: st) fs Y R m E) d Y R m f av (ab_tb j))) false
def ab_swt (Y : ab_Y) (x : ab_I) (lo hi : Int) (k : Nat → ab_Y → Bool) : Int → List Nat → Bool
  | _, [] => true
  | v, t :: ts => cond (sx_le lo v && sx_le v hi) (ab_rf1 .eq Y x v v fun Y => k t Y) true && sx_fi (v + 1) fun v => ab_swt Y x lo hi k v ts
def ab_ldi (L : ab_L) (i : Nat) (k : ab_I → Bool) : Bool := match sx_nt L i with
  | some (.inl z) => k z
  | _ => false
def ab_ldl (L : ab_L) (i : Nat) (k : Bool) : Bool := match sx_nt L i with
  | some (.inr (.inl _)) => k
  | _ => false
def ab_lda (L : ab_L) (i : Nat) (k : Nat → Bool) : Bool := match sx_nt L i with
  | some (.inr (.inr z)) => k z
  | _ => false
def ab_kll (L : ab_L) (i : Nat) : ab_L := match i with
  | 0 => L
  | j + 1 => match sx_nt L j with
    | some (.inr (.inl _)) => L.set j none
    | _ => L
def ab_s1 (L : ab_L) (i : Nat) (v : ab_V) : ab_L := (ab_kll L i).set i (some v)
def ab_s2 (L : ab_L) (i : Nat) (v : ab_V) : ab_L := ((ab_kll L i).set i (some v)).set (i + 1) none
def ab_i1 (st : List ab_V) (k : ab_I → List ab_V → Bool) : Bool := match st with
  | .inl x :: t => k x t
  | _ => false
def ab_l1 (st : List ab_V) (k : List ab_V → Bool) : Bool := match st with
  | .inr (.inl _) :: t => k t
  | _ => false
def ab_r1 (st : List ab_V) (k : Nat → List ab_V → Bool) : Bool := match st with
  | .inr (.inr x) :: t => k x t
  | _ => false
def ab_v1 (st : List ab_V) (k : ab_V → List ab_V → Bool) : Bool := match st with
  | .inl x :: t => k (.inl x) t
  | .inr (.inr x) :: t => k (.inr (.inr x)) t
  | _ => false
def ab_pop : Nat → List ab_V → List ab_V → (List ab_V → List ab_V → Bool) → Bool
  | 0, acc, st, k => k acc st
  | _ + 1, _, [], _ => false
  | n + 1, acc, v :: st, k => ab_pop n (v :: acc) st k
/-- an int of an array's place or a field, split where the contract says so -/
def ab_psh (c : ab_co) (y i : Nat) (Y : ab_Y) (x : ab_I) (k : ab_I → ab_Y → Bool) : Bool := match ab_sl c with
  | [] => k (ab_nr Y x) Y
  | l => cond (l.any (fun q => Nat.beq q.1 y && Nat.beq q.2 i)) (ab_spl Y x fun z Y => k (.inl z) Y) (k (ab_nr Y x) Y)
def ab_bit (Y : ab_Y) (E : ab_E) (st : List ab_V) (an : Bool) (g : Int32 → Int32 → Int32) (k : ab_I → ab_Y → ab_E → List ab_V → Bool) : Bool := ab_i1 st fun y st => ab_i1 st fun x st => ab_iv Y x fun a b => ab_iv Y y fun c d => cond (sx_eq c d) (cond (sx_eq a b) (sx_fi (g (Int32.ofInt a) (Int32.ofInt c)).toInt fun z => k (.inl z) Y E st) (cond (an && (sx_le (.ofNat 0) c && sx_le c (.ofNat 2147483647))) (match E.find? (fun e => ab_ie e.1 x && sx_eq e.2.1 c) with
  | some e => k e.2.2 Y E st
  | none => ab_fr Y (.ofNat 0) c [] fun v Y => k v Y ((x, c, v) :: E) st) (ab_ff Y fun v Y => k v Y E st))) (ab_ff Y fun v Y => k v Y E st)
def ab_un (Y : ab_Y) (st : List ab_V) (ng : Bool) (g : Int32 → Int32) (k : ab_I → ab_Y → List ab_V → Bool) : Bool := ab_i1 st fun x st => ab_iv Y x fun a b => cond (sx_eq a b) (sx_fi (g (Int32.ofInt a)).toInt fun z => k (.inl z) Y st) (cond ng (cond (sx_in (-b) (-a) && sx_in a b) (ab_fr Y (-b) (-a) [] fun v Y => k v Y st) (ab_ff Y fun v Y => k v Y st)) (ab_fr Y (.negSucc 127) (.ofNat 127) [] fun v Y => k v Y st))
def ab_dv (Y : ab_Y) (st : List ab_V) (rm : Bool) (k : ab_I → ab_Y → List ab_V → Bool) : Bool := ab_i1 st fun y st => ab_i1 st fun x st => ab_iv Y x fun a b => ab_iv Y y fun c d => cond (sx_le (.ofNat 1) c && (sx_in a b && sx_in c d)) (cond (sx_le (.ofNat 0) a) (cond rm (ab_fr Y (.ofNat 0) (ab_mn b (d - 1)) [] fun v Y => k v Y st) (ab_fr Y (a / d) (b / c) [] fun v Y => k v Y st)) (cond rm (ab_fr Y (1 - d) (d - 1) [] fun v Y => k v Y st) (ab_ff Y fun v Y => k v Y st))) false
def ab_get (c : ab_co) (y i ci fk : Nat) (st : List ab_V) (Y : ab_Y) (R : ab_R) (m : ab_m) (k : List ab_V → ab_Y → ab_R → ab_m → Bool) : Bool := ab_r1 st fun r st => ab_tg R r fun t _ => cond (Nat.beq t (1001 + ci) && Nat.blt ci 90) (match mj_so ci fk with
  | 0 => ab_rdi Y R m r (.inl (.ofNat fk)) fun v Y m => ab_psh c y i Y v fun v Y => k (.inl v :: st) Y R m
  | 1 => k (.inr (.inl ()) :: st) Y R m
  | _ => ab_rdr Y R m r (.inl (.ofNat fk)) fun u R m => k (.inr (.inr u) :: st) Y R m) false
def ab_gw (fk : Nat) (st : List ab_V) (Y : ab_Y) (R : ab_R) (k : List ab_V → ab_R → Bool) : Bool := ab_r1 st fun r st => ab_tg R r fun t _ => cond (Nat.beq (Nat.mod t 1000) 50) (match fk with
  | 0 => k (.inr (.inl ()) :: st) R
  | _ => cond (Nat.beq t 50) ((List.range 24).all fun q => sx_fi (mj_ww.getD q 0) fun z => sx_fn (900050 + 1000 * q) fun t => k (.inl (.inl z) :: st) (R.set r (t, 0))) (sx_fi (mj_ww.getD ((t - 900050) / 1000) 0) fun z => k (.inl (.inl z) :: st) R)) false
def ab_tf (Y : ab_Y) (x : ab_I) : Bool := ab_iv Y x fun a b => sx_le (.ofNat 0) a && sx_le b (.ofNat 1)
def ab_put (c : ab_co) (ci fk : Nat) (st : List ab_V) (Y : ab_Y) (R : ab_R) (m : ab_m) (k : List ab_V → ab_Y → ab_m → Bool) : Bool := match mj_so ci fk with
  | 0 => ab_i1 st fun z st => ab_r1 st fun r st => ab_tg R r fun t _ => cond ((Nat.beq t (1001 + ci) && Nat.blt ci 90) && (!sx_isb (mj_ty ci fk) || ab_tf Y z)) (ab_wri (ab_w c) Y R m r (.inl (.ofNat fk)) z fun Y m => k st Y m) false
  | 1 => ab_l1 st fun st => ab_r1 st fun r st => ab_tg R r fun t _ => cond (Nat.beq t (1001 + ci) && Nat.blt ci 90) (k st Y m) false
  | _ => ab_r1 st fun u st => ab_r1 st fun r st => ab_tg R r fun t _ => cond (Nat.beq t (1001 + ci) && Nat.blt ci 90) (ab_wrr (ab_w c) Y R m r (.inl (.ofNat fk)) u fun Y m => k st Y m) false
/-- a place of an array: the array, its tag, the index -/
def ab_ix (Y : ab_Y) (st : List ab_V) (R : ab_R) (k : Nat → Nat → ab_I → List ab_V → Bool) : Bool := ab_i1 st fun x st => ab_r1 st fun r st => ab_tg R r fun t n => ab_iv Y x fun lo hi => cond (sx_le (.ofNat 0) lo && !sx_le (.ofNat n) hi) (k r t x st) false
def ab_kn (Y : ab_Y) (x : ab_I) (k : Int → Bool) : Bool := ab_iv Y x fun a b => cond (sx_eq a b) (k a) false
/-- every place's bounds of a row that is copied -/
def ab_cpc (t sp t2 dp : Nat) : Nat → Bool
  | 0 => true
  | n + 1 => (sx_le (ab_rg t2 (dp + n)).1 (ab_rg t (sp + n)).1 && sx_le (ab_rg t (sp + n)).2 (ab_rg t2 (dp + n)).2) && ab_cpc t sp t2 dp n
def ab_lib (c : ab_co) (f : Nat) (st : List ab_V) (Y : ab_Y) (R : ab_R) (m : ab_m) (k : List ab_V → ab_Y → ab_m → Bool) : Bool := match f with
  | 0 => ab_i1 st fun y st => ab_i1 st fun x st => cond (Nat.ble (ab_cat st) 8) (cond (ab_ge Y x y (.ofNat 0)) (k (.inl x :: st) Y m) (cond (ab_ge Y y x (.ofNat 0)) (k (.inl y :: st) Y m) (ab_iv Y x fun a b => ab_iv Y y fun c d => ab_fr Y (ab_mx a c) (ab_mx b d) [] fun v Y => k (.inl v :: st) Y m))) false
  | 1 => ab_i1 st fun y st => ab_i1 st fun x st => cond (Nat.ble (ab_cat st) 8) (cond (ab_ge Y y x (.ofNat 0)) (k (.inl x :: st) Y m) (cond (ab_ge Y x y (.ofNat 0)) (k (.inl y :: st) Y m) (ab_iv Y x fun a b => ab_iv Y y fun c d => ab_fr Y (ab_mn a c) (ab_mn b d) [] fun v Y => k (.inl v :: st) Y m))) false
  | 2 => ab_i1 st fun x st => cond (Nat.ble (ab_cat st) 8) (ab_iv Y x fun a b => cond (sx_le (.ofNat 0) a) (k (.inl x :: st) Y m) (cond (sx_le a ab_lo) (ab_ff Y fun v Y => k (.inl v :: st) Y m) (ab_fr Y (cond (sx_le (.ofNat 0) b) (.ofNat 0) (-b)) (ab_mx (-a) b) [] fun v Y => k (.inl v :: st) Y m))) false
  | 3 => ab_i1 st fun n st => ab_i1 st fun dp st => ab_r1 st fun b st => ab_i1 st fun sp st => ab_r1 st fun a st => ab_kn Y n fun n => ab_kn Y dp fun dp => ab_kn Y sp fun sp => ab_tg R a fun ta na => ab_tg R b fun tb nb => cond (Nat.beq (Nat.mod ta 1000) 100 && (Nat.beq (Nat.mod tb 1000) 100 && (Nat.blt tb 900000 && (sx_le (.ofNat 0) sp && (sx_le (.ofNat 0) dp && (sx_le (.ofNat 1) n && (Nat.ble (sp.toNat + n.toNat) na && (Nat.ble (dp.toNat + n.toNat) nb && (Nat.ble (ab_cat st) 8 && (ab_cpc ta sp.toNat tb dp.toNat n.toNat && ab_cw (ab_w c) tb dp (dp + n - 1))))))))))) (k st Y (ab_kw [(tb, dp.toNat, dp.toNat + n.toNat - 1)] Y R m)) false
  | 4 => ab_i1 st fun n st => ab_i1 st fun dp st => ab_r1 st fun b st => ab_i1 st fun sp st => ab_r1 st fun a st => ab_kn Y n fun n => ab_kn Y dp fun dp => ab_kn Y sp fun sp => ab_tg R a fun ta na => ab_tg R b fun tb nb => cond (Nat.beq (Nat.mod ta 1000) 103 && (Nat.beq (Nat.mod tb 1000) 103 && ((Nat.blt tb 900000 && !Nat.beq tb 55103) && (sx_le (.ofNat 0) sp && (sx_le (.ofNat 0) dp && (sx_le (.ofNat 0) n && (Nat.ble (sp.toNat + n.toNat) na && (Nat.ble (dp.toNat + n.toNat) nb && Nat.ble (ab_cat st) 8)))))))) (k st Y m) false
  | _ => false
def ab_aq (cd : ClassFile.ACond) (a b : Bool) : Bool := match cd with
  | .eq => a
  | .ne => b
/-- one instruction -/
def ab_st (c : ab_co) (id : Nat) (K : ab_K) : ab_K := fun y d i rest L st fs Y R m E => match rest with
  | [] => false
  | x :: rest => match x.1 with
    | .iload_n k => ab_ldi L k.val fun v => K y d (Nat.succ i) rest L (.inl (ab_nr Y v) :: st) fs Y R m E
    | .iload k => ab_ldi L k fun v => K y d (Nat.succ i) rest L (.inl (ab_nr Y v) :: st) fs Y R m E
    | .lload_n k => ab_ldl L k.val (K y d (Nat.succ i) rest L (.inr (.inl ()) :: st) fs Y R m E)
    | .lload k => ab_ldl L k (K y d (Nat.succ i) rest L (.inr (.inl ()) :: st) fs Y R m E)
    | .aload_n k => ab_lda L k.val fun v => K y d (Nat.succ i) rest L (.inr (.inr v) :: st) fs Y R m E
    | .aload k => ab_lda L k fun v => K y d (Nat.succ i) rest L (.inr (.inr v) :: st) fs Y R m E
    | .istore_n k => ab_i1 st fun z st => K y d (Nat.succ i) rest (ab_s1 L k.val (.inl z)) st fs Y R m E
    | .istore k => ab_i1 st fun z st => K y d (Nat.succ i) rest (ab_s1 L k (.inl z)) st fs Y R m E
    | .lstore_n k => ab_l1 st fun st => K y d (Nat.succ i) rest (ab_s2 L k.val (.inr (.inl ()))) st fs Y R m E
    | .lstore k => ab_l1 st fun st => K y d (Nat.succ i) rest (ab_s2 L k (.inr (.inl ()))) st fs Y R m E
    | .astore_n k => ab_r1 st fun z st => K y d (Nat.succ i) rest (ab_s1 L k.val (.inr (.inr z))) st fs Y R m E
    | .astore k => ab_r1 st fun z st => K y d (Nat.succ i) rest (ab_s1 L k (.inr (.inr z))) st fs Y R m E
    | .iinc k z => ab_ldi L k fun v => ab_add Y v (.inl z) fun v Y => K y d (Nat.succ i) rest (ab_s1 L k (.inl v)) st fs Y R m E
    | .iconst z => K y d (Nat.succ i) rest L (.inl (.inl z) :: st) fs Y R m E
    | .bipush z => K y d (Nat.succ i) rest L (.inl (.inl z) :: st) fs Y R m E
    | .sipush z => K y d (Nat.succ i) rest L (.inl (.inl z) :: st) fs Y R m E
    | .ldc _ => K y d (Nat.succ i) rest L (.inl (.inl x.2.2.2) :: st) fs Y R m E
    | .ldc_w _ => K y d (Nat.succ i) rest L (.inl (.inl x.2.2.2) :: st) fs Y R m E
    | .ldc2_w _ => K y d (Nat.succ i) rest L (.inr (.inl ()) :: st) fs Y R m E
    | .lconst _ => K y d (Nat.succ i) rest L (.inr (.inl ()) :: st) fs Y R m E
    | .aconst_null => K y d (Nat.succ i) rest L (.inr (.inr R.length) :: st) fs Y (R ++ [(1, 0)]) m E
    | .iadd => ab_i1 st fun v st => ab_i1 st fun u st => ab_add Y u v fun w Y => K y d (Nat.succ i) rest L (.inl w :: st) fs Y R m E
    | .isub => ab_i1 st fun v st => ab_i1 st fun u st => ab_sub Y u v fun w Y => K y d (Nat.succ i) rest L (.inl w :: st) fs Y R m E
    | .imul => ab_i1 st fun v st => ab_i1 st fun u st => ab_mul Y u v fun w Y => K y d (Nat.succ i) rest L (.inl w :: st) fs Y R m E
    | .idiv => ab_dv Y st false fun w Y st => K y d (Nat.succ i) rest L (.inl w :: st) fs Y R m E
    | .irem => ab_dv Y st true fun w Y st => K y d (Nat.succ i) rest L (.inl w :: st) fs Y R m E
    | .iand => ab_bit Y E st true (fun x y => x &&& y) fun v Y E st => K y d (Nat.succ i) rest L (.inl v :: st) fs Y R m E
    | .ior => ab_bit Y E st false (fun x y => x ||| y) fun v Y E st => K y d (Nat.succ i) rest L (.inl v :: st) fs Y R m E
    | .ishl => ab_bit Y E st false (fun x y => x <<< (y &&& 31)) fun v Y E st => K y d (Nat.succ i) rest L (.inl v :: st) fs Y R m E
    | .ishr => ab_bit Y E st false (fun x y => x >>> (y &&& 31)) fun v Y E st => K y d (Nat.succ i) rest L (.inl v :: st) fs Y R m E
    | .iushr => ab_bit Y E st false (fun x y => (x.toUInt32 >>> (y.toUInt32 &&& Int32.toUInt32 31)).toInt32) fun v Y E st => K y d (Nat.succ i) rest L (.inl v :: st) fs Y R m E
    | .ineg => ab_un Y st true (fun x => -x) fun v Y st => K y d (Nat.succ i) rest L (.inl v :: st) fs Y R m E
    | .i2b => ab_un Y st false (fun x => x.toInt8.toInt32) fun v Y st => K y d (Nat.succ i) rest L (.inl v :: st) fs Y R m E
    | .lor => ab_l1 st fun st => ab_l1 st fun st => K y d (Nat.succ i) rest L (.inr (.inl ()) :: st) fs Y R m E
    | .land => ab_l1 st fun st => ab_l1 st fun st => K y d (Nat.succ i) rest L (.inr (.inl ()) :: st) fs Y R m E
    | .lshl => ab_i1 st fun _ st => ab_l1 st fun st => K y d (Nat.succ i) rest L (.inr (.inl ()) :: st) fs Y R m E
    | .lshr => ab_i1 st fun _ st => ab_l1 st fun st => K y d (Nat.succ i) rest L (.inr (.inl ()) :: st) fs Y R m E
    | .lcmp => ab_l1 st fun st => ab_l1 st fun st => ab_fr Y (.negSucc 0) (.ofNat 1) [] fun v Y => K y d (Nat.succ i) rest L (.inl v :: st) fs Y R m E
    | .i2l => ab_i1 st fun _ st => K y d (Nat.succ i) rest L (.inr (.inl ()) :: st) fs Y R m E
    | .l2i => ab_l1 st fun st => ab_ff Y fun v Y => K y d (Nat.succ i) rest L (.inl v :: st) fs Y R m E
    | .dup => ab_v1 st fun v st => K y d (Nat.succ i) rest L (v :: v :: st) fs Y R m E
    | .dup2 => ab_v1 st fun v st => ab_v1 st fun w st => K y d (Nat.succ i) rest L (v :: w :: v :: w :: st) fs Y R m E
    | .pop => ab_v1 st fun _ st => K y d (Nat.succ i) rest L st fs Y R m E
    | .ifCond cd _ => ab_i1 st fun z st => ab_br cd Y z (.inl (.ofNat 0)) (fun Y => K y d (mj_hd x.2.2.1) ((ab_full y).drop (mj_hd x.2.2.1)) L st fs Y R m E) (fun Y => K y d (Nat.succ i) rest L st fs Y R m E)
    | .if_icmp cd _ => ab_i1 st fun v st => ab_i1 st fun z st => ab_br cd Y z v (fun Y => K y d (mj_hd x.2.2.1) ((ab_full y).drop (mj_hd x.2.2.1)) L st fs Y R m E) (fun Y => K y d (Nat.succ i) rest L st fs Y R m E)
    | .ifnull _ => ab_r1 st fun z st => ab_tg R z fun t _ => cond (Nat.beq t 0 || Nat.beq t 1) (K y d (mj_hd x.2.2.1) ((ab_full y).drop (mj_hd x.2.2.1)) L st fs Y (cond (Nat.beq t 0) (R.set z (1, 0)) R) m E) true && cond (Nat.beq t 1) true (K y d (Nat.succ i) rest L st fs Y (cond (Nat.beq t 0) (R.set z (50, 0)) R) m E)
    | .ifnonnull _ => ab_r1 st fun z st => ab_tg R z fun t _ => cond (Nat.beq t 1) true (K y d (mj_hd x.2.2.1) ((ab_full y).drop (mj_hd x.2.2.1)) L st fs Y (cond (Nat.beq t 0) (R.set z (50, 0)) R) m E) && cond (Nat.beq t 0 || Nat.beq t 1) (K y d (Nat.succ i) rest L st fs Y (cond (Nat.beq t 0) (R.set z (1, 0)) R) m E) true
    | .if_acmp cd _ => ab_r1 st fun b st => ab_r1 st fun a st => ab_tg R a fun ta na => ab_tg R b fun tb nb => cond (Nat.ble 900000 tb && (Nat.beq (Nat.mod tb 1000) 50 && Nat.beq nb 0)) (cond (Nat.beq ta tb && Nat.beq na 0) (ab_aq cd (K y d (mj_hd x.2.2.1) ((ab_full y).drop (mj_hd x.2.2.1)) L st fs Y R m E) (K y d (Nat.succ i) rest L st fs Y R m E)) (cond (Nat.beq ta 0 || Nat.beq ta 50) (ab_aq cd (K y d (mj_hd x.2.2.1) ((ab_full y).drop (mj_hd x.2.2.1)) L st fs Y (R.set a (tb, 0)) m E && K y d (Nat.succ i) rest L st fs Y R m E) (K y d (mj_hd x.2.2.1) ((ab_full y).drop (mj_hd x.2.2.1)) L st fs Y R m E && K y d (Nat.succ i) rest L st fs Y (R.set a (tb, 0)) m E)) (cond (Nat.beq ta 1 || Nat.ble 900000 ta && Nat.beq (Nat.mod ta 1000) 50) (ab_aq cd (K y d (Nat.succ i) rest L st fs Y R m E) (K y d (mj_hd x.2.2.1) ((ab_full y).drop (mj_hd x.2.2.1)) L st fs Y R m E)) false))) false
    | .goto _ => K y d (mj_hd x.2.2.1) ((ab_full y).drop (mj_hd x.2.2.1)) L st fs Y R m E
    | .getstatic _ => !x.2.2.1.isEmpty && K y d (Nat.succ i) rest L (.inr (.inr R.length) :: st) fs Y (R ++ [mj_wt (mj_hd x.2.2.1)]) m E
    | .getfield _ => !x.2.2.1.isEmpty && cond (Nat.beq (mj_hd x.2.2.1) 49) (ab_gw (mj_h1 x.2.2.1) st Y R fun st R => K y d (Nat.succ i) rest L st fs Y R m E) (ab_get c y i (mj_hd x.2.2.1) (mj_h1 x.2.2.1) st Y R m fun st Y R m => K y d (Nat.succ i) rest L st fs Y R m E)
    | .putfield _ => !x.2.2.1.isEmpty && ab_put c (mj_hd x.2.2.1) (mj_h1 x.2.2.1) st Y R m fun st Y m => K y d (Nat.succ i) rest L st fs Y R m E
    | .iaload => ab_ix Y st R fun r t x st => cond (Nat.beq (Nat.mod t 1000) 100) (ab_rdi Y R m r x fun v Y m => ab_psh c y i Y v fun v Y => K y d (Nat.succ i) rest L (.inl v :: st) fs Y R m E) false
    | .baload => ab_ix Y st R fun r t x st => cond (Nat.beq (Nat.mod t 1000) 101 || Nat.beq (Nat.mod t 1000) 102) (ab_rdi Y R m r x fun v Y m => K y d (Nat.succ i) rest L (.inl v :: st) fs Y R m E) false
    | .laload => ab_ix Y st R fun _ t _ st => cond (Nat.beq (Nat.mod t 1000) 103) (K y d (Nat.succ i) rest L (.inr (.inl ()) :: st) fs Y R m E) false
    | .aaload => ab_ix Y st R fun r t v st => cond (Nat.beq (Nat.mod t 1000) (100 + mj_hd x.2.2.1)) (ab_rdr Y R m r v fun u R m => K y d (Nat.succ i) rest L (.inr (.inr u) :: st) fs Y R m E) false
    | .iastore => ab_i1 st fun z st => ab_ix Y st R fun r t x st => cond (Nat.beq (Nat.mod t 1000) 100) (ab_wri (ab_w c) Y R m r x z fun Y m => K y d (Nat.succ i) rest L st fs Y R m E) false
    | .bastore => ab_i1 st fun z st => ab_ix Y st R fun r t x st => cond (Nat.beq (Nat.mod t 1000) 101) (ab_iv Y z fun a b => cond (sx_le (.negSucc 127) a && sx_le b (.ofNat 127)) (ab_wri (ab_w c) Y R m r x z fun Y m => K y d (Nat.succ i) rest L st fs Y R m E) (ab_fr Y (.negSucc 127) (.ofNat 127) [] fun z Y => ab_wri (ab_w c) Y R m r x z fun Y m => K y d (Nat.succ i) rest L st fs Y R m E)) (cond (Nat.beq (Nat.mod t 1000) 102 && ab_tf Y z) (ab_wri (ab_w c) Y R m r x z fun Y m => K y d (Nat.succ i) rest L st fs Y R m E) false)
    | .lastore => ab_l1 st fun st => ab_ix Y st R fun _ t _ st => cond (Nat.beq (Nat.mod t 1000) 103 && (Nat.blt t 900000 && !Nat.beq t 55103)) (K y d (Nat.succ i) rest L st fs Y R m E) false
    | .aastore => ab_r1 st fun u st => ab_ix Y st R fun r t v st => cond (Nat.beq (Nat.mod t 1000) (100 + mj_hd x.2.2.1) && (Nat.beq (mj_hd x.2.2.1) 5 || Nat.beq (mj_hd x.2.2.1) 6)) (ab_tg R u fun tu _ => cond (Nat.beq tu 0 || (Nat.beq tu 1 || (Nat.beq (mj_hd x.2.2.1) 5 && Nat.beq (Nat.mod tu 1000) 50 || Nat.beq (mj_hd x.2.2.1) 6 && Nat.beq (Nat.mod tu 1000) 7))) (cond (Nat.beq tu 0 && !Nat.beq (mj_hd x.2.2.1) 5) false (ab_wrr (ab_w c) Y R m r v u fun Y m => K y d (Nat.succ i) rest L st fs Y R m E)) false) false
    | .tableswitch _ lo hi _ => ab_i1 st fun z st => ab_iv Y z fun a b => (cond (sx_le lo a) true (ab_rf1 .lt Y z lo lo fun Y => K y d (mj_hd x.2.2.1) ((ab_full y).drop (mj_hd x.2.2.1)) L st fs Y R m E) && cond (sx_le b hi) true (ab_rf1 .gt Y z hi hi fun Y => K y d (mj_hd x.2.2.1) ((ab_full y).drop (mj_hd x.2.2.1)) L st fs Y R m E)) && ab_swt Y z a b (fun t Y => K y d t ((ab_full y).drop t) L st fs Y R m E) lo (x.2.2.1.drop 1)
    | .arraylength => ab_r1 st fun r st => ab_tg R r fun t n => cond (Nat.ble 100 (Nat.mod t 1000) && (Nat.blt (Nat.mod t 1000) 107 && Nat.ble n 4096)) (K y d (Nat.succ i) rest L (.inl (.inl (.ofNat n)) :: st) fs Y R m E) false
    | .invokevirtual _ => !x.2.2.1.isEmpty && ab_pop (mj_h1 x.2.2.1) [] st fun As st => ab_r1 st fun a st => ab_tg R a fun t _ => cond (Nat.beq (Nat.mod t 1000) (mj_h2 x.2.2.1 + 1) && !Nat.beq t 1) (ab_call c id K y d (Nat.succ i) rest L st fs Y R m E (mj_hd x.2.2.1) (.inr (.inr a) :: As)) false
    | .invokestatic _ => match x.2.2.1 with
      | [] => false
      | [f, _] => ab_lib c f st Y R m fun st Y m => K y d (Nat.succ i) rest L st fs Y R m E
      | _ => ab_pop (mj_h1 x.2.2.1) [] st fun As st => ab_call c id K y d (Nat.succ i) rest L st fs Y R m E (mj_hd x.2.2.1) As
    | .invokespecial _ => match x.2.2.1 with
      | [] => false
      | f :: _ => ab_pop (mj_h1 x.2.2.1) [] st fun As st => ab_r1 st fun a st => ab_tg R a fun t _ => cond (Nat.beq (Nat.mod t 1000) (mj_h2 x.2.2.1 + 1) && !Nat.beq t 1) (ab_call c id K y d (Nat.succ i) rest L st fs Y R m E f (.inr (.inr a) :: As)) false
    | .ireturn => ab_i1 st fun z st => st.isEmpty && cond (sx_eq x.2.2.2 (.ofNat 1)) (ab_tf Y z && ab_spl Y z fun z Y => ab_ret c K fs Y R m E (some (.inl (.inl z)))) (ab_ret c K fs Y R m E (some (.inl z)))
    | .areturn => ab_r1 st fun z st => st.isEmpty && ab_ret c K fs Y R m E (some (.inr (.inr z)))
    | .return_ => st.isEmpty && ab_ret c K fs Y R m E none
    | _ => false
/-- a cut ends the run -/
def ab_sp (c : ab_co) (A : Option (List (ab_I × Nat))) (K : ab_K) : ab_K := fun y d i rest L st fs Y R m E => match fs with
  | [] => cond ((ab_c c).any (fun b => Nat.beq b.1 i)) (ab_arr c A i L st Y R m) (K y d i rest L st [] Y R m E)
  | f :: fs => K y d i rest L st (f :: fs) Y R m E
noncomputable def ab_ex (c : ab_co) (id : Nat) (A : Option (List (ab_I × Nat))) (n : Nat) : ab_K := Nat.rec (motive := fun _ => ab_K) (fun _ _ _ _ _ _ _ _ _ _ _ => false) (fun _ ih => ab_sp c A (ab_st c id ih)) n
def ab_mk (m : List (Nat × Nat × ab_V)) : ab_m := m.map (fun e => (e.1, .inl (.ofNat e.2.1), e.2.2))
def ab_dv1 (L : ab_L) : List ab_V := L.filterMap (fun v => v)
/-- the run from the entry -/
noncomputable def ab_ce (c : ab_co) (id : Nat) : Bool := Nat.ble (ab_cat (ab_dv1 (ab_p c).2.2.2)) (mj_tab (ab_y c)).2.2.1 && ab_st c id (ab_ex c id none 8000) (ab_y c) (ab_h c) 0 (ab_full (ab_y c)) (ab_en (ab_dv1 (ab_p c).2.2.2) (mj_tab (ab_y c)).2.2.1) [] [] (ab_p c).1 (ab_p c).2.1 (ab_mk (ab_p c).2.2.1) []
/-- the run from the cut b -/
noncomputable def ab_cc (c : ab_co) (id : Nat) (b : ab_cu) : Bool := (b.2.2.all (fun q => match q.1 with
  | .inl _ => true
  | .inr (i, _, _) => Nat.blt i b.2.1.1.length) && (ab_c c).all (fun b' => Nat.beq b'.2.2.length b.2.2.length)) && ab_st c id (ab_ex c id (some b.2.2) 8000) (ab_y c) (ab_h c) b.1 ((ab_full (ab_y c)).drop b.1) b.2.1.2.2.2 [] [] b.2.1.1 b.2.1.2.1 (ab_mk b.2.1.2.2.1) []
end
section
/-! ===== what the abstract run says, the small machine does: worlds, values, numbers ===== -/
abbrev ab_wd : Type := Nat × (Nat → Int) × Nat × (Nat → Option Nat)
def ab_up (w w' : ab_wd) : Prop := w.1 ≤ w'.1 ∧ (∀ i, i < w.1 → w'.2.1 i = w.2.1 i) ∧ w.2.2.1 ≤ w'.2.2.1 ∧ ∀ i, i < w.2.2.1 → w'.2.2.2 i = w.2.2.2 i
theorem ab_up.rf {w : ab_wd} : ab_up w w := ⟨Nat.le_refl _, fun _ _ => rfl, Nat.le_refl _, fun _ _ => rfl⟩
theorem ab_up.tr {w w' w'' : ab_wd} (h : ab_up w w') (h' : ab_up w' w'') : ab_up w w'' :=
  ⟨Nat.le_trans h.1 h'.1, fun i hi => (h'.2.1 i (Nat.lt_of_lt_of_le hi h.1)).trans (h.2.1 i hi), Nat.le_trans h.2.2.1 h'.2.2.1, fun i hi => (h'.2.2.2 i (Nat.lt_of_lt_of_le hi h.2.2.1)).trans (h.2.2.2 i hi)⟩
def ab_RI (w : ab_wd) (x : ab_I) (z : Int) : Prop := match x with
  | .inl y => y = z
  | .inr (i, a, b) => i < w.1 ∧ Int.ofNat a * w.2.1 i + b = z
def ab_RV (w : ab_wd) (x : ab_V) (v : mj_V) : Prop := match x with
  | .inl x => ∃ z, v = .inl z ∧ ab_RI w x z
  | .inr (.inl _) => ∃ z, v = .inr (.inl z)
  | .inr (.inr j) => j < w.2.2.1 ∧ v = .inr (.inr (w.2.2.2 j))
def ab_RS (w : ab_wd) : List ab_V → List mj_V → Prop
  | [], t => t = []
  | x :: s, t => ∃ v t', t = v :: t' ∧ ab_RV w x v ∧ ab_RS w s t'
def ab_RL (w : ab_wd) : ab_L → mj_L → Prop
  | [], L => L = []
  | none :: s, L => ∃ v L', L = v :: L' ∧ ab_RL w s L'
  | some x :: s, L => ∃ v L', L = some v :: L' ∧ ab_RV w x v ∧ ab_RL w s L'
def ab_q1 (w : ab_wd) (i : Nat) (q : ab_S) : Prop := q.1 ≤ w.2.1 i ∧ w.2.1 i ≤ q.2.1 ∧ ∀ r ∈ q.2.2, r.1 < w.1 ∧ w.2.1 r.1 + r.2 ≤ w.2.1 i
def ab_RY (w : ab_wd) (Y : ab_Y) : Prop := w.1 = Y.length ∧ ∀ i q, ab_ny Y i = some q → ab_q1 w i q
def ab_rt (G : mj_G) (q : Nat × Nat) (o : Option Nat) : Prop := (q.1 = 0 ∧ (o = none ∨ ∃ a, o = some a ∧ (G a).1 % 1000 = 50)) ∨ (q.1 = 1 ∧ o = none) ∨ (q.1 = 50 ∧ ∃ a, o = some a ∧ (G a).1 % 1000 = 50) ∨ (q.1 ≠ 0 ∧ q.1 ≠ 1 ∧ q.1 ≠ 50 ∧ ∃ a, o = some a ∧ G a = q)
def ab_RR (w : ab_wd) (G : mj_G) (R : ab_R) : Prop := w.2.2.1 = R.length ∧ ∀ i q, ab_nR R i = some q → ab_rt G q (w.2.2.2 i)
def ab_hv (w : ab_wd) (M : mj_M) (a k : Nat) (v : ab_V) : Prop := match v with
  | .inl x => ab_RI w x (M.1 a k)
  | .inr (.inl _) => True
  | .inr (.inr j) => j < w.2.2.1 ∧ M.2.2 a k = w.2.2.2 j
def ab_e1 (w : ab_wd) (M : mj_M) (e : Nat × ab_I × ab_V) : Prop := e.1 < w.2.2.1 ∧ ∃ a z, w.2.2.2 e.1 = some a ∧ ab_RI w e.2.1 z ∧ 0 ≤ z ∧ ab_hv w M a z.toNat e.2.2
def ab_RM (w : ab_wd) (M : mj_M) (m : ab_m) : Prop := ∀ e ∈ m, ab_e1 w M e
def ab_RE (w : ab_wd) (E : ab_E) : Prop := ∀ e ∈ E, ∃ z, ab_RI w e.1 z ∧ ab_RI w e.2.2 (Int32.ofInt z &&& Int32.ofInt e.2.1).toInt
theorem ab_RI.up {w w' : ab_wd} {x : ab_I} {z : Int} (u : ab_up w w') (h : ab_RI w x z) : ab_RI w' x z := by
  rcases x with y | ⟨i, a, b⟩
  · exact h
  · exact ⟨Nat.lt_of_lt_of_le h.1 u.1, by rw [u.2.1 i h.1]; exact h.2⟩
theorem ab_RI.fn {w : ab_wd} {x : ab_I} {z z' : Int} (h : ab_RI w x z) (h' : ab_RI w x z') : z = z' := by
  rcases x with y | ⟨i, a, b⟩
  · exact (show y = z from h).symm.trans h'
  · exact h.2.symm.trans h'.2
theorem ab_RV.up {w w' : ab_wd} {x : ab_V} {v : mj_V} (u : ab_up w w') (h : ab_RV w x v) : ab_RV w' x v := by
  rcases x with x | x | j
  · obtain ⟨z, h1, h2⟩ := h; exact ⟨z, h1, h2.up u⟩
  · exact h
  · exact ⟨Nat.lt_of_lt_of_le h.1 u.2.2.1, by rw [u.2.2.2 j h.1]; exact h.2⟩
theorem ab_RS.up {w w' : ab_wd} (u : ab_up w w') : ∀ {s : List ab_V} {t : List mj_V}, ab_RS w s t → ab_RS w' s t
  | [], _, h => h
  | _ :: _, _, h => by
    obtain ⟨v, t', h1, h2, h3⟩ := h
    exact ⟨v, t', h1, h2.up u, h3.up u⟩
theorem ab_RL.up {w w' : ab_wd} (u : ab_up w w') : ∀ {s : ab_L} {t : mj_L}, ab_RL w s t → ab_RL w' s t
  | [], _, h => h
  | none :: _, _, h => by
    obtain ⟨v, t', h1, h3⟩ := h
    exact ⟨v, t', h1, h3.up u⟩
  | some _ :: _, _, h => by
    obtain ⟨v, t', h1, h2, h3⟩ := h
    exact ⟨v, t', h1, h2.up u, h3.up u⟩
theorem ab_hv.up {w w' : ab_wd} {M : mj_M} {a k : Nat} {v : ab_V} (u : ab_up w w') (h : ab_hv w M a k v) : ab_hv w' M a k v := by
  rcases v with x | x | j
  · exact ab_RI.up (x := x) u h
  · trivial
  · exact ⟨Nat.lt_of_lt_of_le h.1 u.2.2.1, by rw [u.2.2.2 j h.1]; exact h.2⟩
theorem ab_e1.up {w w' : ab_wd} {M : mj_M} {e : Nat × ab_I × ab_V} (u : ab_up w w') (h : ab_e1 w M e) : ab_e1 w' M e := by
  obtain ⟨h0, a, z, h1, h2, h4, h3⟩ := h
  exact ⟨Nat.lt_of_lt_of_le h0 u.2.2.1, a, z, by rw [u.2.2.2 _ h0]; exact h1, h2.up u, h4, h3.up u⟩
theorem ab_RM.up {w w' : ab_wd} {M : mj_M} {m : ab_m} (u : ab_up w w') (h : ab_RM w M m) : ab_RM w' M m := fun e he => (h e he).up u
theorem ab_RE.up {w w' : ab_wd} {E : ab_E} (u : ab_up w w') (h : ab_RE w E) : ab_RE w' E := fun e he => by
  obtain ⟨z, h1, h2⟩ := h e he
  exact ⟨z, h1.up u, h2.up u⟩
/-- the signs grow, the references stay -/
def ab_ey (w w' : ab_wd) : Prop := ab_up w w' ∧ w'.2.2 = w.2.2
theorem ab_ey.rf {w : ab_wd} : ab_ey w w := ⟨ab_up.rf, rfl⟩
theorem ab_ey.tr {w w' w'' : ab_wd} (h : ab_ey w w') (h' : ab_ey w' w'') : ab_ey w w'' := ⟨h.1.tr h'.1, h'.2.trans h.2⟩
theorem ab_RR.ey {w w' : ab_wd} {G : mj_G} {R : ab_R} (u : ab_ey w w') (h : ab_RR w G R) : ab_RR w' G R := by
  unfold ab_RR
  rw [u.2]
  exact h
/-- the references grow, the signs stay -/
def ab_er (w w' : ab_wd) : Prop := ab_up w w' ∧ w'.1 = w.1 ∧ w'.2.1 = w.2.1
theorem ab_er.rf {w : ab_wd} : ab_er w w := ⟨ab_up.rf, rfl, rfl⟩
theorem ab_RY.er {w w' : ab_wd} {Y : ab_Y} (u : ab_er w w') (h : ab_RY w Y) : ab_RY w' Y := by
  unfold ab_RY ab_q1
  rw [u.2.1, u.2.2]
  exact h
theorem ab_nR_lt : ∀ {R : ab_R} {i : Nat} {q : Nat × Nat}, ab_nR R i = some q → i < R.length
  | [], _, _, h => by cases h
  | _ :: _, 0, _, _ => Nat.succ_pos _
  | _ :: _, _ + 1, _, h => Nat.succ_lt_succ (ab_nR_lt (R := _) h)
theorem ab_ny_lt : ∀ {Y : ab_Y} {i : Nat} {q : ab_S}, ab_ny Y i = some q → i < Y.length
  | [], _, _, h => by cases h
  | _ :: _, 0, _, _ => Nat.succ_pos _
  | _ :: _, _ + 1, _, h => Nat.succ_lt_succ (ab_ny_lt (Y := _) h)
theorem ab_ny_app : ∀ (Y : ab_Y) (q : ab_S) (i : Nat) (r : ab_S), ab_ny (Y ++ [q]) i = some r → (i = Y.length ∧ r = q) ∨ ab_ny Y i = some r
  | [], q, 0, r, h => Or.inl ⟨rfl, (Option.some.inj h).symm⟩
  | [], q, i + 1, r, h => by cases h
  | x :: t, q, 0, r, h => Or.inr h
  | x :: t, q, i + 1, r, h => by
    rcases ab_ny_app t q i r h with ⟨h1, h2⟩ | h1
    · exact Or.inl ⟨by rw [h1]; rfl, h2⟩
    · exact Or.inr h1
theorem ab_ny_set : ∀ (Y : ab_Y) (j : Nat) (q : ab_S) (i : Nat) (r : ab_S), ab_ny (Y.set j q) i = some r → (i = j ∧ r = q) ∨ ab_ny Y i = some r
  | [], _, _, _, _, h => by cases h
  | x :: t, 0, q, 0, r, h => Or.inl ⟨rfl, (Option.some.inj h).symm⟩
  | x :: t, 0, q, i + 1, r, h => Or.inr h
  | x :: t, j + 1, q, 0, r, h => Or.inr h
  | x :: t, j + 1, q, i + 1, r, h => by
    rcases ab_ny_set t j q i r h with ⟨h1, h2⟩ | h1
    · exact Or.inl ⟨by rw [h1], h2⟩
    · exact Or.inr h1
theorem ab_nR_app : ∀ (Y : ab_R) (q : Nat × Nat) (i : Nat) (r : Nat × Nat), ab_nR (Y ++ [q]) i = some r → (i = Y.length ∧ r = q) ∨ ab_nR Y i = some r
  | [], q, 0, r, h => Or.inl ⟨rfl, (Option.some.inj h).symm⟩
  | [], q, i + 1, r, h => by cases h
  | x :: t, q, 0, r, h => Or.inr h
  | x :: t, q, i + 1, r, h => by
    rcases ab_nR_app t q i r h with ⟨h1, h2⟩ | h1
    · exact Or.inl ⟨by rw [h1]; rfl, h2⟩
    · exact Or.inr h1
theorem ab_nR_set : ∀ (Y : ab_R) (j : Nat) (q : Nat × Nat) (i : Nat) (r : Nat × Nat), ab_nR (Y.set j q) i = some r → (i = j ∧ r = q) ∨ ab_nR Y i = some r
  | [], _, _, _, _, h => by cases h
  | x :: t, 0, q, 0, r, h => Or.inl ⟨rfl, (Option.some.inj h).symm⟩
  | x :: t, 0, q, i + 1, r, h => Or.inr h
  | x :: t, j + 1, q, 0, r, h => Or.inr h
  | x :: t, j + 1, q, i + 1, r, h => by
    rcases ab_nR_set t j q i r h with ⟨h1, h2⟩ | h1
    · exact Or.inl ⟨by rw [h1], h2⟩
    · exact Or.inr h1
theorem ab_RY.set {w : ab_wd} {Y : ab_Y} (hY : ab_RY w Y) {i : Nat} {q : ab_S} (h : ab_q1 w i q) : ab_RY w (Y.set i q) := by
  refine ⟨by rw [List.length_set]; exact hY.1, fun j r hr => ?_⟩
  rcases ab_ny_set Y i q j r hr with ⟨h1, h2⟩ | h1
  · rw [h1, h2]; exact h
  · exact hY.2 j r h1
theorem ab_RR.set {w : ab_wd} {G : mj_G} {R : ab_R} (hR : ab_RR w G R) {i : Nat} {q : Nat × Nat} (h : ab_rt G q (w.2.2.2 i)) : ab_RR w G (R.set i q) := by
  refine ⟨by rw [List.length_set]; exact hR.1, fun j r hr => ?_⟩
  rcases ab_nR_set R i q j r hr with ⟨h1, h2⟩ | h1
  · rw [h1, h2]; exact h
  · exact hR.2 j r h1
/-! numbers -/
theorem ab_mn_s (x y : Int) : ab_mn x y ≤ x ∧ ab_mn x y ≤ y := by
  unfold ab_mn
  cases e : sx_le x y with
  | true => have := sx_le_iff.mp e; simp only [cond_true]; omega
  | false => have := sx_le_no (x := x) (y := y) (by rw [e]; exact Bool.false_ne_true); simp only [cond_false]; omega
theorem ab_mx_s (x y : Int) : x ≤ ab_mx x y ∧ y ≤ ab_mx x y := by
  unfold ab_mx
  cases e : sx_le x y with
  | true => have := sx_le_iff.mp e; simp only [cond_true]; omega
  | false => have := sx_le_no (x := x) (y := y) (by rw [e]; exact Bool.false_ne_true); simp only [cond_false]; omega
theorem ab_mn_or (x y : Int) : ab_mn x y = x ∨ ab_mn x y = y := by
  unfold ab_mn
  cases sx_le x y <;> simp
theorem ab_mx_or (x y : Int) : ab_mx x y = x ∨ ab_mx x y = y := by
  unfold ab_mx
  cases sx_le x y <;> simp
theorem ab_ml {a : Nat} {x y : Int} (h : x ≤ y) : Int.ofNat a * x ≤ Int.ofNat a * y := Int.mul_le_mul_of_nonneg_left h (Int.natCast_nonneg a)
theorem ab_iv_s {Y : ab_Y} {x : ab_I} {k : Int → Int → Bool} {w : ab_wd} {z : Int} (h : ab_iv Y x k = true) (hY : ab_RY w Y) (hx : ab_RI w x z) : ∃ lo hi, k lo hi = true ∧ lo ≤ z ∧ z ≤ hi := by
  rcases x with y | ⟨i, a, b⟩
  · have e : y = z := hx
    exact ⟨y, y, h, by omega, by omega⟩
  · unfold ab_iv at h
    dsimp only at h
    cases hq : ab_ny Y i with
    | none => rw [hq] at h; cases h
    | some q =>
      rw [hq] at h
      dsimp only at h
      rw [sx_fi_eq, sx_fi_eq] at h
      obtain ⟨b1, b2, -⟩ := hY.2 i q hq
      have m1 := ab_ml (a := a) b1
      have m2 := ab_ml (a := a) b2
      have e := hx.2
      exact ⟨_, _, h, by omega, by omega⟩
theorem ab_nr_s {Y : ab_Y} {x : ab_I} {w : ab_wd} {z : Int} (hY : ab_RY w Y) (hx : ab_RI w x z) : ab_RI w (ab_nr Y x) z := by
  rcases x with y | ⟨i, a, b⟩
  · exact hx
  · unfold ab_nr
    dsimp only
    cases hq : ab_ny Y i with
    | none => exact hx
    | some q =>
      dsimp only
      cases e : sx_eq q.1 q.2.1 with
      | false => exact hx
      | true =>
        have e := sx_eq_iff.mp e
        obtain ⟨b1, b2, -⟩ := hY.2 i q hq
        have e2 : q.1 = w.2.1 i := by omega
        show Int.ofNat a * q.1 + b = z
        rw [e2]; exact hx.2
theorem ab_nr_i {Y : ab_Y} {x : ab_I} {w : ab_wd} {z : Int} (hY : ab_RY w Y) {z' : Int} (hx : ab_RI w x z') (h : ab_RI w (ab_nr Y x) z) : ab_RI w x z := by
  rw [ab_RI.fn h (ab_nr_s hY hx)]; exact hx
theorem ab_ie_s {x y : ab_I} {w : ab_wd} {z : Int} (h : ab_ie x y = true) (hx : ab_RI w x z) : ab_RI w y z := by
  rcases x with p | ⟨i, a, b⟩ <;> rcases y with q | ⟨j, c, d⟩
  · have := sx_eq_iff.mp h
    show q = z
    rw [← this]; exact hx
  · cases h
  · cases h
  · obtain ⟨h1, h⟩ := sx_nd h
    obtain ⟨h2, h3⟩ := sx_nd h
    rw [← sx_beq h1, ← sx_beq h2, ← sx_eq_iff.mp h3]
    exact hx
theorem ab_ie_i {x y : ab_I} {w : ab_wd} {z : Int} (h : ab_ie x y = true) (hx : ab_RI w y z) : ab_RI w x z := by
  rcases x with p | ⟨i, a, b⟩ <;> rcases y with q | ⟨j, c, d⟩
  · have := sx_eq_iff.mp h
    show p = z
    rw [this]; exact hx
  · cases h
  · cases h
  · obtain ⟨h1, h⟩ := sx_nd h
    obtain ⟨h2, h3⟩ := sx_nd h
    rw [sx_beq h1, sx_beq h2, sx_eq_iff.mp h3]
    exact hx
theorem ab_sm_s {Y : ab_Y} {x y : ab_I} {w : ab_wd} {z z' : Int} (hY : ab_RY w Y) (h : ab_sm Y x y = true) (hx : ab_RI w x z) (hy : ab_RI w y z') : z = z' :=
  ab_RI.fn (ab_ie_s h (ab_nr_s hY hx)) (ab_nr_s hY hy)
theorem ab_lb_s {Y : ab_Y} {w : ab_wd} (hY : ab_RY w Y) : ∀ (n i j : Nat) (d : Int), ab_lb Y n i j = some d → w.2.1 j + d ≤ w.2.1 i
  | 0, _, _, _, h => by cases h
  | n + 1, i, j, d, h => by
    unfold ab_lb at h
    cases e : Nat.beq i j with
    | true =>
      rw [e] at h
      have h : some (Int.ofNat 0) = some d := h
      cases h
      rw [sx_beq e]; show w.2.1 j + 0 ≤ _; omega
    | false =>
      rw [e] at h
      dsimp only [cond_false] at h
      cases hq : ab_ny Y i with
      | none => rw [hq] at h; cases h
      | some q =>
        rw [hq] at h
        dsimp only at h
        have hr := (hY.2 i q hq).2.2
        have key : ∀ (l : List (Nat × Int)) (acc : Option Int), (∀ r ∈ l, r.1 < w.1 ∧ w.2.1 r.1 + r.2 ≤ w.2.1 i) → (∀ d, acc = some d → w.2.1 j + d ≤ w.2.1 i) → ∀ d, l.foldl (fun acc r => match ab_lb Y n r.1 j with
            | none => acc
            | some z => ab_mo acc (z + r.2)) acc = some d → w.2.1 j + d ≤ w.2.1 i := by
          intro l
          induction l with
          | nil => intro acc _ ha d hd; exact ha d hd
          | cons r t ih =>
            intro acc hl ha d hd
            refine ih _ (fun r hr => hl r (List.mem_cons_of_mem _ hr)) (fun d hd => ?_) d hd
            have hr1 := hl r List.mem_cons_self
            dsimp only at hd
            cases hz : ab_lb Y n r.1 j with
            | none => rw [hz] at hd; exact ha d hd
            | some z =>
              rw [hz] at hd
              have i1 := ab_lb_s hY n r.1 j z hz
              cases acc with
              | none =>
                have hd : some (z + r.2) = some d := hd
                cases hd; omega
              | some x =>
                have hd : some (ab_mx x (z + r.2)) = some d := hd
                cases hd
                have i2 := ha x rfl
                rcases ab_mx_or x (z + r.2) with q | q <;> rw [q] <;> omega
        exact key q.2.2 none hr (fun d hd => by cases hd) d h
theorem ab_df_s {Y : ab_Y} {x y : ab_I} {w : ab_wd} {zx zy d : Int} (hY : ab_RY w Y) (h : ab_df Y x y = some d) (hx : ab_RI w x zx) (hy : ab_RI w y zy) : zy + d ≤ zx := by
  rcases x with p | ⟨i, a, b⟩ <;> rcases y with r | ⟨j, c, e⟩
  · have h : some (p - r) = some d := h
    cases h
    have e1 : p = zx := hx
    have e2 : r = zy := hy
    omega
  · unfold ab_df at h
    dsimp only at h
    cases hq : ab_ny Y j with
    | none => rw [hq] at h; cases h
    | some q =>
      rw [hq] at h
      have h : some (p - (Int.ofNat c * q.2.1 + e)) = some d := h
      cases h
      have e1 : p = zx := hx
      have e2 := hy.2
      have m := ab_ml (a := c) (hY.2 j q hq).2.1
      omega
  · unfold ab_df at h
    dsimp only at h
    cases hq : ab_ny Y i with
    | none => rw [hq] at h; cases h
    | some q =>
      rw [hq] at h
      have h : some (Int.ofNat a * q.1 + b - r) = some d := h
      cases h
      have e1 : r = zy := hy
      have e2 := hx.2
      have m := ab_ml (a := a) (hY.2 i q hq).1
      omega
  · unfold ab_df at h
    dsimp only at h
    have ex := hx.2
    have ey := hy.2
    cases hc : (Nat.beq i j && Nat.beq a c) with
    | true =>
      rw [hc] at h
      have h : some (b - e) = some d := h
      cases h
      obtain ⟨h1, h2⟩ := sx_nd hc
      rw [← sx_beq h1, ← sx_beq h2] at ey
      omega
    | false =>
      rw [hc] at h
      dsimp only [cond_false] at h
      cases hp : ab_ny Y i with
      | none => rw [hp] at h; cases h
      | some p =>
        rw [hp] at h
        dsimp only at h
        cases hq : ab_ny Y j with
        | none => rw [hq] at h; cases h
        | some q =>
          rw [hq] at h
          dsimp only at h
          have m1 := ab_ml (a := a) (hY.2 i p hp).1
          have m2 := ab_ml (a := c) (hY.2 j q hq).2.1
          cases h1 : (Nat.beq a 1 && Nat.beq c 1) with
          | false =>
            rw [h1] at h
            have h : some (Int.ofNat a * p.1 + b - (Int.ofNat c * q.2.1 + e)) = some d := h
            cases h; omega
          | true =>
            rw [h1] at h
            dsimp only [cond_true] at h
            cases hl : ab_lb Y 12 i j with
            | none =>
              rw [hl] at h
              have h : some (Int.ofNat a * p.1 + b - (Int.ofNat c * q.2.1 + e)) = some d := h
              cases h; omega
            | some z =>
              rw [hl] at h
              have h : some (ab_mx (z + b - e) (Int.ofNat a * p.1 + b - (Int.ofNat c * q.2.1 + e))) = some d := h
              cases h
              obtain ⟨h2, h3⟩ := sx_nd h1
              have i1 := ab_lb_s hY 12 i j z hl
              have ea : Int.ofNat a * w.2.1 i = w.2.1 i := by rw [sx_beq h2]; exact Int.one_mul _
              have ec : Int.ofNat c * w.2.1 j = w.2.1 j := by rw [sx_beq h3]; exact Int.one_mul _
              rcases ab_mx_or (z + b - e) (Int.ofNat a * p.1 + b - (Int.ofNat c * q.2.1 + e)) with g | g <;> rw [g] <;> omega
theorem ab_ge_s {Y : ab_Y} {x y : ab_I} {w : ab_wd} {zx zy d : Int} (hY : ab_RY w Y) (h : ab_ge Y x y d = true) (hx : ab_RI w x zx) (hy : ab_RI w y zy) : zy + d ≤ zx := by
  unfold ab_ge at h
  cases hd : ab_df Y x y with
  | none => rw [hd] at h; cases h
  | some z =>
    rw [hd] at h
    have h1 := ab_df_s hY hd hx hy
    have h2 := sx_le_iff.mp h
    omega
theorem ab_hb_s {Y0 : ab_Y} {w : ab_wd} {j : Nat} : ∀ (Y : ab_Y) (acc : Int), (∀ i q, ab_ny Y i = some q → ∃ v, v ≤ q.2.1 ∧ ∀ r ∈ q.2.2, w.2.1 r.1 + r.2 ≤ v) → w.2.1 j ≤ acc → w.2.1 j ≤ ab_hb Y0 j Y acc
  | [], _, _, h => h
  | q :: t, acc, hY, h => by
    unfold ab_hb
    refine ab_hb_s t _ (fun i q hq => hY (i + 1) q hq) ?_
    obtain ⟨v, hv, hr⟩ := hY 0 q rfl
    have key : ∀ (l : List (Nat × Int)) (acc : Int), (∀ r ∈ l, w.2.1 r.1 + r.2 ≤ v) → w.2.1 j ≤ acc → w.2.1 j ≤ l.foldl (fun acc r => cond (Nat.beq r.1 j) (ab_mn acc (q.2.1 - r.2)) acc) acc := by
      intro l
      induction l with
      | nil => intro acc _ ha; exact ha
      | cons r t ih =>
        intro acc hl ha
        refine ih _ (fun r hr => hl r (List.mem_cons_of_mem _ hr)) ?_
        have hr1 := hl r List.mem_cons_self
        show w.2.1 j ≤ cond (Nat.beq r.1 j) (ab_mn acc (q.2.1 - r.2)) acc
        cases e : Nat.beq r.1 j with
        | false => exact ha
        | true =>
          rw [sx_beq e] at hr1
          show w.2.1 j ≤ ab_mn acc (q.2.1 - r.2)
          rcases ab_mn_or acc (q.2.1 - r.2) with g | g <;> rw [g] <;> omega
    exact key q.2.2 acc hr h
theorem ab_le_s {Y : ab_Y} {x : ab_I} {w : ab_wd} {z hi : Int} (hY : ab_RY w Y) (h : ab_le Y x hi = true) (hx : ab_RI w x z) : z ≤ hi := by
  rcases x with p | ⟨i, a, b⟩
  · have := sx_le_iff.mp h
    have e : p = z := hx
    omega
  · unfold ab_le at h
    dsimp only at h
    cases hq : ab_ny Y i with
    | none => rw [hq] at h; cases h
    | some q =>
      rw [hq] at h
      dsimp only at h
      have ex := hx.2
      rw [Bool.or_eq_true] at h
      rcases h with h | h
      · have := sx_le_iff.mp h
        have m := ab_ml (a := a) (hY.2 i q hq).2.1
        omega
      · obtain ⟨h1, h2⟩ := sx_nd h
        have h2 := sx_le_iff.mp h2
        have ea : Int.ofNat a * w.2.1 i = w.2.1 i := by rw [sx_beq h1]; exact Int.one_mul _
        have := ab_hb_s (Y0 := Y) (w := w) (j := i) Y q.2.1 (fun i q hq => ⟨w.2.1 i, (hY.2 i q hq).2.1, fun r hr => ((hY.2 i q hq).2.2 r hr).2⟩) (hY.2 i q hq).2.1
        omega
end
section
/-! ===== new signs, arithmetic, comparisons ===== -/
theorem ab_q1.up {w w' : ab_wd} {i : Nat} {q : ab_S} (u : ab_up w w') (hi : i < w.1) (h : ab_q1 w i q) : ab_q1 w' i q := by
  obtain ⟨h1, h2, h3⟩ := h
  unfold ab_q1
  rw [u.2.1 i hi]
  refine ⟨h1, h2, fun r hr => ?_⟩
  obtain ⟨g1, g2⟩ := h3 r hr
  exact ⟨Nat.lt_of_lt_of_le g1 u.1, by rw [u.2.1 _ g1]; exact g2⟩
def ab_ok3 (w : ab_wd) (k : ab_I → ab_Y → Bool) (z : Int) : Prop := ∃ w' v Y', ab_ey w w' ∧ ab_RY w' Y' ∧ ab_RI w' v z ∧ k v Y' = true
theorem ab_fr_s {Y : ab_Y} {lo hi z : Int} {rel : List (Nat × Int)} {k : ab_I → ab_Y → Bool} {w : ab_wd} (h : ab_fr Y lo hi rel k = true) (hY : ab_RY w Y) (h1 : lo ≤ z) (h2 : z ≤ hi) (hr : ∀ r ∈ rel, r.1 < w.1 ∧ w.2.1 r.1 + r.2 ≤ z) : ab_ok3 w k z := by
  unfold ab_fr at h
  rw [sx_fi_eq, sx_fi_eq] at h
  cases he : sx_eq lo hi with
  | true =>
    rw [he] at h
    have := sx_eq_iff.mp he
    exact ⟨w, .inl lo, Y, ab_ey.rf, hY, (by show lo = z; omega), h⟩
  | false =>
    rw [he] at h
    have u : ab_up w (w.1 + 1, fun i => if i = w.1 then z else w.2.1 i, w.2.2) := ⟨Nat.le_succ _, fun i hi => if_neg (Nat.ne_of_lt hi), Nat.le_refl _, fun _ _ => rfl⟩
    have hz : (if w.1 = w.1 then z else w.2.1 w.1) = z := if_pos rfl
    refine ⟨(w.1 + 1, fun i => if i = w.1 then z else w.2.1 i, w.2.2), .inr (Y.length, 1, .ofNat 0), Y ++ [(lo, hi, rel)], ⟨u, rfl⟩, ⟨?_, fun i r hni => ?_⟩, ⟨?_, ?_⟩, h⟩
    · rw [List.length_append, ← hY.1]; rfl
    · rcases ab_ny_app Y _ i r hni with ⟨e1, e2⟩ | e1
      · rw [← hY.1] at e1
        subst e1
        subst e2
        refine ⟨?_, ?_, fun r hr1 => ?_⟩
        · show lo ≤ (if w.1 = w.1 then z else w.2.1 w.1); rw [hz]; exact h1
        · show (if w.1 = w.1 then z else w.2.1 w.1) ≤ hi; rw [hz]; exact h2
        · obtain ⟨g1, g2⟩ := hr r hr1
          refine ⟨Nat.lt_succ_of_lt g1, ?_⟩
          show (if r.1 = w.1 then z else w.2.1 r.1) + r.2 ≤ (if w.1 = w.1 then z else w.2.1 w.1)
          rw [hz, if_neg (Nat.ne_of_lt g1)]; exact g2
      · exact (hY.2 i r e1).up u (by rw [hY.1]; exact ab_ny_lt e1)
    · show Y.length < w.1 + 1
      rw [hY.1]; exact Nat.lt_succ_self _
    · show Int.ofNat 1 * (if Y.length = w.1 then z else w.2.1 Y.length) + Int.ofNat 0 = z
      rw [if_pos hY.1.symm]
      show (1 : Int) * z + 0 = z
      omega
theorem ab_ff_s {Y : ab_Y} {z : Int} {k : ab_I → ab_Y → Bool} {w : ab_wd} (h : ab_ff Y k = true) (hY : ab_RY w Y) (hz : mj_in z) : ab_ok3 w k z :=
  ab_fr_s h hY (show (-2147483648 : Int) ≤ z from hz.1) (show z ≤ (2147483647 : Int) from by have := hz.2; omega) (fun r hr => by cases hr)
theorem ab_c1_s {i a : Nat} {b : Int} {k : ab_I → Bool} (h : ab_c1 i a b k = true) : k (.inr (i, a, b)) = true := by
  unfold ab_c1 at h
  rw [sx_fi_eq, sx_fn_eq] at h
  exact h
theorem ab_rel1_s {w : ab_wd} {x : ab_I} {d zx z : Int} (hx : ab_RI w x zx) (h : zx + d ≤ z) : ∀ r ∈ ab_rel1 x d, r.1 < w.1 ∧ w.2.1 r.1 + r.2 ≤ z := by
  intro r hr
  unfold ab_rel1 at hr
  split at hr
  · rename_i i b
    have e : r = (i, b + d) := by simpa using hr
    subst e
    have h2 : Int.ofNat 1 * w.2.1 i + b = zx := hx.2
    have h3 : Int.ofNat 1 * w.2.1 i = w.2.1 i := Int.one_mul _
    exact ⟨hx.1, by show w.2.1 i + (b + d) ≤ z; omega⟩
  · cases hr
def ab_ok2 (w : ab_wd) (k : ab_I → ab_Y → Bool) (z : Int) : Prop := (mj_in z ∧ ab_ok3 w k z) ∨ ∀ z, mj_in z → ab_ok3 w k z
theorem ab_here {w : ab_wd} {Y : ab_Y} {k : ab_I → ab_Y → Bool} {v : ab_I} {z : Int} (hY : ab_RY w Y) (hv : ab_RI w v z) (h : k v Y = true) : ab_ok3 w k z := ⟨w, v, Y, ab_ey.rf, hY, hv, h⟩
theorem ab_hc {w : ab_wd} {Y : ab_Y} {k : ab_I → ab_Y → Bool} {v z : Int} (hY : ab_RY w Y) (e : v = z) (h : k (.inl v) Y = true) : ab_ok3 w k z := ⟨w, .inl v, Y, ab_ey.rf, hY, e, h⟩
theorem ab_hs {w : ab_wd} {Y : ab_Y} {k : ab_I → ab_Y → Bool} {i a : Nat} {b z : Int} (hY : ab_RY w Y) (hi : i < w.1) (e : Int.ofNat a * w.2.1 i + b = z) (h : k (.inr (i, a, b)) Y = true) : ab_ok3 w k z := ⟨w, .inr (i, a, b), Y, ab_ey.rf, hY, ⟨hi, e⟩, h⟩
theorem ab_add_s {Y : ab_Y} {x y : ab_I} {k : ab_I → ab_Y → Bool} {w : ab_wd} {zx zy : Int} (h : ab_add Y x y k = true) (hY : ab_RY w Y) (hx : ab_RI w x zx) (hy : ab_RI w y zy) : ab_ok2 w k (zx + zy) := by
  unfold ab_add at h
  obtain ⟨a, b, h, ha, hb⟩ := ab_iv_s h hY hx
  obtain ⟨c, d, h, hc, hd⟩ := ab_iv_s h hY hy
  cases hin : sx_in (a + c) (b + d) with
  | false =>
    rw [hin] at h
    exact Or.inr (fun z hz => ab_ff_s h hY hz)
  | true =>
    rw [hin] at h
    dsimp only [cond_true] at h
    refine Or.inl ⟨sx_in_of hin (by omega) (by omega), ?_⟩
    rcases x with p | ⟨i, f, p⟩ <;> rcases y with q | ⟨j, g, q⟩
    · dsimp only at h
      rw [sx_fi_eq] at h
      have e1 : p = zx := hx
      have e2 : q = zy := hy
      exact ab_hc hY (show p + q = zx + zy by omega) h
    · have e1 : p = zx := hx
      exact ab_hs hY hy.1 (by have := hy.2; omega) (ab_c1_s h)
    · have e1 : q = zy := hy
      exact ab_hs hY hx.1 (by have := hx.2; omega) (ab_c1_s h)
    · dsimp only at h
      cases hij : Nat.beq i j with
      | true =>
        rw [hij] at h
        dsimp only [cond_true] at h
        have e := sx_beq hij
        refine ab_hs hY hx.1 ?_ (ab_c1_s h)
        have h1 := hx.2
        have h2 := hy.2
        rw [← e] at h2
        have h3 : Int.ofNat (f + g) * w.2.1 i = Int.ofNat f * w.2.1 i + Int.ofNat g * w.2.1 i := by
          rw [← Int.add_mul]; rfl
        omega
      | false =>
        rw [hij] at h
        dsimp only [cond_false] at h
        refine ab_fr_s h hY (by omega) (by omega) ?_
        cases hf : Nat.beq f 1 with
        | true => exact ab_rel1_s hx (by omega)
        | false => exact ab_rel1_s hy (by omega)
theorem ab_sub_s {Y : ab_Y} {x y : ab_I} {k : ab_I → ab_Y → Bool} {w : ab_wd} {zx zy : Int} (h : ab_sub Y x y k = true) (hY : ab_RY w Y) (hx : ab_RI w x zx) (hy : ab_RI w y zy) : ab_ok2 w k (zx - zy) := by
  unfold ab_sub at h
  obtain ⟨a, b, h, ha, hb⟩ := ab_iv_s h hY hx
  obtain ⟨c, d, h, hc, hd⟩ := ab_iv_s h hY hy
  cases hin : sx_in (a - d) (b - c) with
  | false =>
    rw [hin] at h
    exact Or.inr (fun z hz => ab_ff_s h hY hz)
  | true =>
    rw [hin] at h
    dsimp only [cond_true] at h
    refine Or.inl ⟨sx_in_of hin (by omega) (by omega), ?_⟩
    rcases x with p | ⟨i, f, p⟩ <;> rcases y with q | ⟨j, g, q⟩
    · dsimp only at h
      rw [sx_fi_eq] at h
      have e1 : p = zx := hx
      have e2 : q = zy := hy
      exact ab_hc hY (show p - q = zx - zy by omega) h
    · exact ab_fr_s h hY (by omega) (by omega) (fun r hr => by cases hr)
    · have e1 : q = zy := hy
      exact ab_hs hY hx.1 (by have := hx.2; omega) (ab_c1_s h)
    · dsimp only at h
      cases hij : (Nat.beq i j && Nat.ble g f) with
      | true =>
        rw [hij] at h
        dsimp only [cond_true] at h
        obtain ⟨e, hgf⟩ := sx_nd hij
        have e := sx_beq e
        have hgf := sx_ble hgf
        have h1 := hx.2
        have h2 := hy.2
        rw [← e] at h2
        cases hfg : Nat.beq f g with
        | true =>
          rw [hfg] at h
          dsimp only [cond_true] at h
          rw [sx_fi_eq] at h
          have e2 := sx_beq hfg
          rw [← e2] at h2
          exact ab_hc hY (show p - q = zx - zy by omega) h
        | false =>
          rw [hfg] at h
          dsimp only [cond_false] at h
          refine ab_hs hY hx.1 ?_ (ab_c1_s h)
          have h3 : Int.ofNat (f - g) * w.2.1 i = Int.ofNat f * w.2.1 i - Int.ofNat g * w.2.1 i := by
            rw [← Int.sub_mul]
            congr 1
            simp only [Int.ofNat_eq_natCast]; omega
          omega
      | false =>
        rw [hij] at h
        dsimp only [cond_false] at h
        exact ab_fr_s h hY (by omega) (by omega) (ab_rel1_s hx (by omega))
theorem ab_mb1 {a b x y : Int} (h1 : a ≤ x) (h2 : x ≤ b) : (a * y ≤ x * y ∨ b * y ≤ x * y) ∧ (x * y ≤ a * y ∨ x * y ≤ b * y) := by
  rcases Int.le_total 0 y with hy | hy
  · exact ⟨Or.inl (Int.mul_le_mul_of_nonneg_right h1 hy), Or.inr (Int.mul_le_mul_of_nonneg_right h2 hy)⟩
  · exact ⟨Or.inr (Int.mul_le_mul_of_nonpos_right h2 hy), Or.inl (Int.mul_le_mul_of_nonpos_right h1 hy)⟩
theorem ab_mul_s {Y : ab_Y} {x y : ab_I} {k : ab_I → ab_Y → Bool} {w : ab_wd} {zx zy : Int} (h : ab_mul Y x y k = true) (hY : ab_RY w Y) (hx : ab_RI w x zx) (hy : ab_RI w y zy) : ab_ok2 w k (zx * zy) := by
  unfold ab_mul at h
  obtain ⟨a, b, h, ha, hb⟩ := ab_iv_s h hY hx
  obtain ⟨c, d, h, hc, hd⟩ := ab_iv_s h hY hy
  rw [sx_fi_eq, sx_fi_eq] at h
  have hlo : ab_mn (ab_mn (a * c) (a * d)) (ab_mn (b * c) (b * d)) ≤ zx * zy ∧ zx * zy ≤ ab_mx (ab_mx (a * c) (a * d)) (ab_mx (b * c) (b * d)) := by
    obtain ⟨m1, m2⟩ := ab_mb1 (y := zy) ha hb
    obtain ⟨n1, n2⟩ := ab_mb1 (y := a) hc hd
    obtain ⟨o1, o2⟩ := ab_mb1 (y := b) hc hd
    rw [Int.mul_comm c a, Int.mul_comm d a, Int.mul_comm zy a] at n1 n2
    rw [Int.mul_comm c b, Int.mul_comm d b, Int.mul_comm zy b] at o1 o2
    have p1 := ab_mn_s (a * c) (a * d)
    have p2 := ab_mn_s (b * c) (b * d)
    have p3 := ab_mn_s (ab_mn (a * c) (a * d)) (ab_mn (b * c) (b * d))
    have q1 := ab_mx_s (a * c) (a * d)
    have q2 := ab_mx_s (b * c) (b * d)
    have q3 := ab_mx_s (ab_mx (a * c) (a * d)) (ab_mx (b * c) (b * d))
    omega
  generalize ab_mn (ab_mn (a * c) (a * d)) (ab_mn (b * c) (b * d)) = lo at h hlo
  generalize ab_mx (ab_mx (a * c) (a * d)) (ab_mx (b * c) (b * d)) = hi at h hlo
  cases hin : sx_in lo hi with
  | false =>
    rw [hin] at h
    exact Or.inr (fun z hz => ab_ff_s h hY hz)
  | true =>
    rw [hin] at h
    dsimp only [cond_true] at h
    refine Or.inl ⟨sx_in_of hin hlo.1 hlo.2, ?_⟩
    have fr : ab_fr Y lo hi [] k = true → ab_ok3 w k (zx * zy) := fun h => ab_fr_s h hY hlo.1 hlo.2 (fun r hr => by cases hr)
    rcases x with p | ⟨i, f, p⟩ <;> rcases y with q | ⟨j, g, q⟩
    · dsimp only at h
      rw [sx_fi_eq] at h
      have e1 : p = zx := hx
      have e2 : q = zy := hy
      exact ab_hc hY (show p * q = zx * zy by rw [e1, e2]) h
    · cases p with
      | negSucc p => exact fr h
      | ofNat p =>
        dsimp only at h
        have e1 : Int.ofNat p = zx := hx
        cases hp : Nat.ble 1 p with
        | false => rw [hp] at h; exact fr h
        | true =>
          rw [hp] at h
          dsimp only [cond_true] at h
          refine ab_hs hY hy.1 ?_ (ab_c1_s h)
          have h2 := hy.2
          have h3 : Int.ofNat (g * p) * w.2.1 j = Int.ofNat p * (Int.ofNat g * w.2.1 j) := by
            rw [← Int.mul_assoc, Int.mul_comm (Int.ofNat p)]; rfl
          rw [h3, ← Int.mul_add, h2, e1]
    · cases q with
      | negSucc q => exact fr h
      | ofNat q =>
        dsimp only at h
        have e1 : Int.ofNat q = zy := hy
        cases hq : Nat.ble 1 q with
        | false => rw [hq] at h; exact fr h
        | true =>
          rw [hq] at h
          dsimp only [cond_true] at h
          refine ab_hs hY hx.1 ?_ (ab_c1_s h)
          have h2 := hx.2
          have h3 : Int.ofNat (f * q) * w.2.1 i = Int.ofNat q * (Int.ofNat f * w.2.1 i) := by
            rw [← Int.mul_assoc, Int.mul_comm (Int.ofNat q)]; rfl
          rw [h3, ← Int.mul_add, h2, e1, Int.mul_comm]
    · exact fr h
/-! comparisons -/
theorem ab_may_s {c : ClassFile.Cond} {Y : ab_Y} {x y : ab_I} {w : ab_wd} {zx zy : Int} (hY : ab_RY w Y) (hx : ab_RI w x zx) (hy : ab_RI w y zy) (h : mj_cc c zx zy) : ab_may c Y x y = true := by
  cases c <;> simp only [mj_cc] at h <;> simp only [ab_may] <;> rw [Bool.not_eq_true', Bool.eq_false_iff] <;> intro q
  · rw [Bool.or_eq_true] at q
    rcases q with q | q
    · have : zy + 1 ≤ zx := ab_ge_s hY q hx hy
      omega
    · have : zx + 1 ≤ zy := ab_ge_s hY q hy hx
      omega
  · exact h (ab_sm_s hY q hx hy)
  · have : zy + 0 ≤ zx := ab_ge_s hY q hx hy
    omega
  · have : zx + 1 ≤ zy := ab_ge_s hY q hy hx
    omega
  · have : zx + 0 ≤ zy := ab_ge_s hY q hy hx
    omega
  · have : zy + 1 ≤ zx := ab_ge_s hY q hx hy
    omega
theorem ab_rfn_s {cd : ClassFile.Cond} {lo hi b c d v q : Int} {k : Int → Int → Bool} (h : ab_rfn cd lo hi b c d k = true) (hc : mj_cc cd (v + b) q) (h1 : lo ≤ v) (h2 : v ≤ hi) (h3 : c ≤ q) (h4 : q ≤ d) : ∃ l h', l ≤ v ∧ v ≤ h' ∧ k l h' = true := by
  cases cd <;> simp only [mj_cc] at hc <;> simp only [ab_rfn] at h
  · rw [sx_fi_eq, sx_fi_eq] at h
    refine ⟨_, _, ?_, ?_, h⟩
    · rcases ab_mx_or lo (c - b) with e | e <;> rw [e] <;> omega
    · rcases ab_mn_or hi (d - b) with e | e <;> rw [e] <;> omega
  · cases e : sx_eq c d with
    | false => rw [e] at h; exact ⟨_, _, h1, h2, h⟩
    | true =>
      rw [e] at h
      dsimp only [cond_true] at h
      rw [sx_fi_eq, sx_fi_eq] at h
      have e := sx_eq_iff.mp e
      refine ⟨_, _, ?_, ?_, h⟩
      · cases e2 : sx_eq lo (c - b) with
        | true => have := sx_eq_iff.mp e2; simp only [cond_true]; omega
        | false => simp only [cond_false]; omega
      · cases e2 : sx_eq hi (c - b) with
        | true => have := sx_eq_iff.mp e2; simp only [cond_true]; omega
        | false => simp only [cond_false]; omega
  · rw [sx_fi_eq] at h
    refine ⟨_, _, h1, ?_, h⟩
    rcases ab_mn_or hi (d - 1 - b) with e | e <;> rw [e] <;> omega
  · rw [sx_fi_eq] at h
    refine ⟨_, _, ?_, h2, h⟩
    rcases ab_mx_or lo (c - b) with e | e <;> rw [e] <;> omega
  · rw [sx_fi_eq] at h
    refine ⟨_, _, ?_, h2, h⟩
    rcases ab_mx_or lo (c + 1 - b) with e | e <;> rw [e] <;> omega
  · rw [sx_fi_eq] at h
    refine ⟨_, _, h1, ?_, h⟩
    rcases ab_mn_or hi (d - b) with e | e <;> rw [e] <;> omega
theorem ab_rf1_s {cd : ClassFile.Cond} {Y : ab_Y} {x : ab_I} {c d z q : Int} {k : ab_Y → Bool} {w : ab_wd} (h : ab_rf1 cd Y x c d k = true) (hY : ab_RY w Y) (hx : ab_RI w x z) (hc : mj_cc cd z q) (h3 : c ≤ q) (h4 : q ≤ d) : ∃ Y', ab_RY w Y' ∧ k Y' = true := by
  rcases x with p | ⟨i, a, b⟩
  · exact ⟨Y, hY, h⟩
  · unfold ab_rf1 at h
    dsimp only at h
    cases ha : Nat.beq a 1 with
    | false => rw [ha] at h; exact ⟨Y, hY, h⟩
    | true =>
      rw [ha] at h
      dsimp only [cond_true] at h
      cases hq : ab_ny Y i with
      | none => rw [hq] at h; exact ⟨Y, hY, h⟩
      | some r =>
        rw [hq] at h
        dsimp only at h
        obtain ⟨b1, b2, b3⟩ := hY.2 i r hq
        have e : w.2.1 i + b = z := by
          have := hx.2
          rw [sx_beq ha] at this
          have h1 : Int.ofNat 1 * w.2.1 i = w.2.1 i := Int.one_mul _
          omega
        rw [← e] at hc
        obtain ⟨l, h', u1, u2, u3⟩ := ab_rfn_s h hc b1 b2 h3 h4
        have hle := sx_le_iff.mpr (Int.le_trans u1 u2)
        rw [hle] at u3
        exact ⟨Y.set i (l, h', r.2.2), hY.set (q := (l, h', r.2.2)) ⟨u1, u2, b3⟩, u3⟩
theorem ab_sr_s {Y : ab_Y} {i j : Nat} {d : Int} {k : ab_Y → Bool} {w : ab_wd} (h : ab_sr Y i j d k = true) (hY : ab_RY w Y) (hi : i < w.1) (hd : w.2.1 i + d ≤ w.2.1 j) : ∃ Y', ab_RY w Y' ∧ k Y' = true := by
  have two : ab_sr.ab_sr2 Y i j d k = true → ∃ Y', ab_RY w Y' ∧ k Y' = true := fun h => by
    unfold ab_sr.ab_sr2 at h
    cases hq : ab_ny Y j with
    | none => rw [hq] at h; exact ⟨Y, hY, h⟩
    | some q =>
      rw [hq] at h
      dsimp only at h
      rw [sx_fi_eq] at h
      obtain ⟨b1, b2, b3⟩ := hY.2 j q hq
      refine ⟨_, hY.set (q := (q.1, q.2.1, (i, d) :: q.2.2.filter (fun r => !Nat.beq r.1 i))) ⟨b1, b2, fun r hr => ?_⟩, h⟩
      rcases List.mem_cons.mp hr with rfl | hr
      · exact ⟨hi, hd⟩
      · exact b3 r (List.mem_filter.mp hr).1
  unfold ab_sr at h
  cases e : Nat.beq i j with
  | true => rw [e] at h; exact ⟨Y, hY, h⟩
  | false =>
    rw [e] at h
    dsimp only [cond_false] at h
    cases hl : ab_lb Y 12 j i with
    | none => rw [hl] at h; exact two h
    | some z =>
      rw [hl] at h
      dsimp only at h
      cases hz : sx_le d z with
      | true => rw [hz] at h; exact ⟨Y, hY, h⟩
      | false => rw [hz] at h; exact two h
theorem ab_st2_s {cd : ClassFile.Cond} {Y : ab_Y} {x y : ab_I} {zx zy : Int} {k : ab_Y → Bool} {w : ab_wd} (h : ab_st2 cd Y x y k = true) (hY : ab_RY w Y) (hx : ab_RI w x zx) (hy : ab_RI w y zy) (hc : mj_cc cd zx zy) : ∃ Y', ab_RY w Y' ∧ k Y' = true := by
  unfold ab_st2 at h
  split at h
  · rename_i i b j d
    have ex : w.2.1 i + b = zx := by
      have := hx.2
      have h1 : Int.ofNat 1 * w.2.1 i = w.2.1 i := Int.one_mul _
      omega
    have ey : w.2.1 j + d = zy := by
      have := hy.2
      have h1 : Int.ofNat 1 * w.2.1 j = w.2.1 j := Int.one_mul _
      omega
    cases cd <;> simp only [mj_cc] at hc <;> dsimp only at h
    · exact ⟨Y, hY, h⟩
    · exact ⟨Y, hY, h⟩
    · exact ab_sr_s h hY hx.1 (by omega)
    · exact ab_sr_s h hY hy.1 (by omega)
    · exact ab_sr_s h hY hy.1 (by omega)
    · exact ab_sr_s h hY hx.1 (by omega)
  · exact ⟨Y, hY, h⟩
theorem ab_br1_s {cd : ClassFile.Cond} {Y : ab_Y} {x y : ab_I} {a b c d zx zy : Int} {k : ab_Y → Bool} {w : ab_wd} (h : ab_br1 cd Y x y a b c d k = true) (hY : ab_RY w Y) (hx : ab_RI w x zx) (hy : ab_RI w y zy) (hc : mj_cc cd zx zy) (h1 : a ≤ zx) (h2 : zx ≤ b) (h3 : c ≤ zy) (h4 : zy ≤ d) : ∃ Y', ab_RY w Y' ∧ k Y' = true := by
  have h := sx_ct h (ab_may_s hY hx hy hc)
  obtain ⟨Y1, hY1, h⟩ := ab_rf1_s h hY hx hc h3 h4
  obtain ⟨Y2, hY2, h⟩ := ab_rf1_s h hY1 hy (sx_swp_s hc) h1 h2
  exact ab_st2_s h hY2 hx hy hc
theorem ab_br_s {cd : ClassFile.Cond} {Y : ab_Y} {x y : ab_I} {zx zy : Int} {k k' : ab_Y → Bool} {w : ab_wd} {A B : Prop} (h : ab_br cd Y x y k k' = true) (hY : ab_RY w Y) (hx : ab_RI w x zx) (hy : ab_RI w y zy) (kk : ∀ Y', ab_RY w Y' → k Y' = true → A) (kk' : ∀ Y', ab_RY w Y' → k' Y' = true → B) : mj_br (mj_cc cd zx zy) A B := by
  obtain ⟨a, b, h, h1, h2⟩ := ab_iv_s h hY hx
  obtain ⟨c, d, h, h3, h4⟩ := ab_iv_s h hY hy
  obtain ⟨ha, hb⟩ := sx_nd h
  refine ⟨fun q => ?_, fun q => ?_⟩
  · obtain ⟨Y', u1, u2⟩ := ab_br1_s ha hY hx hy q h1 h2 h3 h4
    exact kk Y' u1 u2
  · obtain ⟨Y', u1, u2⟩ := ab_br1_s hb hY hx hy (sx_neg_s q) h1 h2 h3 h4
    exact kk' Y' u1 u2
theorem ab_all_s {k : Int → Bool} {z : Int} : ∀ (n : Nat) (lo : Int), ab_all n lo k = true → lo ≤ z → z < lo + n → k z = true
  | 0, lo, _, h1, h2 => by omega
  | n + 1, lo, h, h1, h2 => by
    unfold ab_all at h
    rw [Bool.and_eq_true, sx_fi_eq] at h
    by_cases e : z = lo
    · rw [e]; exact h.1
    · exact ab_all_s n (lo + 1) h.2 (by omega) (by omega)
theorem ab_spl_s {Y : ab_Y} {x : ab_I} {k : Int → ab_Y → Bool} {w : ab_wd} {z : Int} (h : ab_spl Y x k = true) (hY : ab_RY w Y) (hx : ab_RI w x z) : ∃ Y', ab_RY w Y' ∧ k z Y' = true := by
  rcases x with p | ⟨i, a, b⟩
  · exact ⟨Y, hY, by rw [← (show p = z from hx)]; exact h⟩
  · unfold ab_spl at h
    dsimp only at h
    cases hq : ab_ny Y i with
    | none => rw [hq] at h; cases h
    | some q =>
      rw [hq] at h
      dsimp only at h
      obtain ⟨-, h⟩ := sx_cd h
      obtain ⟨b1, b2, b3⟩ := hY.2 i q hq
      have h := ab_all_s (z := w.2.1 i) _ _ h b1 (by omega)
      rw [sx_fi_eq, hx.2] at h
      exact ⟨_, hY.set (q := (w.2.1 i, w.2.1 i, q.2.2)) ⟨Int.le_refl _, Int.le_refl _, b3⟩, h⟩
end
section
/-! ===== cells: what is known of them, reading, writing ===== -/
/-- the reference's reserved words -/
def ab_rsv (k : Nat) : Int64 := List.getD [Int64.ofNat 1953462126, Int64.ofNat 512736126322, Int64.ofNat 6449508, Int64.ofNat 1852138852, Int64.ofNat 1835625580, Int64.ofNat 108243533981541, Int64.ofNat 439854918756, Int64.ofNat 1836021349, Int64.ofNat 1718186856, Int64.ofNat 8097881601010983781, Int64.ofNat 7103860, Int64.ofNat 7562593, Int64.ofNat 28530, Int64.ofNat 6385252, Int64.ofNat 7237492, Int64.ofNat 495673373285, Int64.ofNat 32765899399459961, Int64.ofNat 1886350948, Int64.ofNat 483006772069, Int64.ofNat 1885432164, Int64.ofNat 6582905, Int64.ofNat 1818588275, Int64.ofNat 444300879214, Int64.ofNat 482854658917] k 0
def ab_Inv (G : mj_G) (M : mj_M) : Prop := (∀ a k, (ab_rg (G a).1 k).1 ≤ M.1 a k ∧ M.1 a k ≤ (ab_rg (G a).1 k).2) ∧ (∀ a k q, ab_rf (G a).1 k = some q → (100 ≤ (G a).1 % 1000 → k < (G a).2) → ab_rt G q (M.2.2 a k)) ∧ (∀ a, (G a).1 % 1000 = 50 → ∃ k, k < 24 ∧ G a = (900050 + 1000 * k, 0)) ∧ (∀ a b, (G a).1 % 1000 = 50 → G a = G b → a = b) ∧ (∀ a k, (G a).1 = 55103 → k < 24 → M.2.1 a k = ab_rsv k)
def ab_cov (W : List (Nat × Nat × Nat)) (t k : Nat) : Prop := ∃ q ∈ W, q.1 = t ∧ q.2.1 ≤ k ∧ k ≤ q.2.2
def ab_frm (W : List (Nat × Nat × Nat)) (G : mj_G) (M0 M : mj_M) : Prop := ∀ a k, ¬ ab_cov W (G a).1 k → M.1 a k = M0.1 a k ∧ M.2.2 a k = M0.2.2 a k
theorem ab_frm.rf {W : List (Nat × Nat × Nat)} {G : mj_G} {M : mj_M} : ab_frm W G M M := fun _ _ _ => ⟨rfl, rfl⟩
theorem ab_frm.tr {W : List (Nat × Nat × Nat)} {G : mj_G} {M M' M'' : mj_M} (h : ab_frm W G M M') (h' : ab_frm W G M' M'') : ab_frm W G M M'' := fun a k hc => ⟨(h' a k hc).1.trans (h a k hc).1, (h' a k hc).2.trans (h a k hc).2⟩
def ab_inr (q : Int × Int) : Prop := -2147483648 ≤ q.1 ∧ q.2 ≤ 2147483647
theorem ab_inc {b : Bool} {x y : Int × Int} (h1 : ab_inr x) (h2 : ab_inr y) : ab_inr (cond b x y) := by cases b <;> assumption
theorem ab_rg_in (t k : Nat) : ab_inr (ab_rg t k) := by
  have hs : ∀ k, ab_inr (ab_s k) := fun k => by
    unfold ab_s
    repeat' first | exact ⟨by decide, by decide⟩ | apply ab_inc
  unfold ab_rg
  refine ab_inc ?_ (ab_inc ?_ ?_)
  · unfold ab_rgp
    repeat' first | exact hs _ | exact ⟨by decide, by decide⟩ | apply ab_inc
  · unfold ab_rga
    repeat' first | exact ⟨by decide, by decide⟩ | apply ab_inc
  · unfold ab_rgo
    repeat' first | exact ⟨by decide, by decide⟩ | apply ab_inc
theorem ab_Inv.mj {G : mj_G} {M : mj_M} (h : ab_Inv G M) (a k : Nat) : mj_in (M.1 a k) := by
  have h1 := h.1 a k
  have h2 := ab_rg_in (G a).1 k
  unfold ab_inr at h2
  exact ⟨by omega, by omega⟩
theorem ab_tg_s {R : ab_R} {r : Nat} {k : Nat → Nat → Bool} {w : ab_wd} {G : mj_G} (h : ab_tg R r k = true) (hR : ab_RR w G R) : ∃ t n, ab_nR R r = some (t, n) ∧ k t n = true ∧ ab_rt G (t, n) (w.2.2.2 r) ∧ r < w.2.2.1 := by
  unfold ab_tg at h
  cases hq : ab_nR R r with
  | none => rw [hq] at h; cases h
  | some q =>
    rw [hq] at h
    exact ⟨q.1, q.2, rfl, h, hR.2 r q hq, by rw [hR.1]; exact ab_nR_lt hq⟩
theorem ab_rt_a {G : mj_G} {t n : Nat} {o : Option Nat} (h : ab_rt G (t, n) o) (h0 : t ≠ 0) (h1 : t ≠ 1) (h5 : t ≠ 50) : ∃ a, o = some a ∧ G a = (t, n) := by
  rcases h with h | h | h | h
  · exact absurd h.1 h0
  · exact absurd h.1 h1
  · exact absurd h.1 h5
  · exact h.2.2.2
theorem ab_ts_s {G : mj_G} {p q : Nat × Nat} {o : Option Nat} (h : ab_ts p q = true) (hq : ab_rt G q o) : ab_rt G p o := by
  have w50 : q.1 % 1000 = 50 → ∃ a, o = some a ∧ (G a).1 % 1000 = 50 := fun e => by
    rcases hq with g | g | g | g
    · rw [g.1] at e; simp at e
    · rw [g.1] at e; simp at e
    · exact g.2
    · obtain ⟨a, g1, g2⟩ := g.2.2.2
      exact ⟨a, g1, by rw [g2]; exact e⟩
  unfold ab_ts at h
  rw [Bool.or_eq_true, Bool.or_eq_true] at h
  rcases h with h | h | h
  · obtain ⟨h1, h2⟩ := sx_nd h
    have e : p = q := Prod.ext (sx_beq h1) (sx_beq h2)
    rw [e]; exact hq
  · obtain ⟨h1, h2⟩ := sx_nd h
    refine Or.inl ⟨sx_beq h1, ?_⟩
    rw [Bool.or_eq_true, Bool.or_eq_true] at h2
    rcases h2 with h2 | h2 | h2
    · rcases hq with g | g | g | g
      · exact g.2
      · exact absurd (sx_beq h2) (by rw [g.1]; decide)
      · exact absurd (sx_beq h2) (by rw [g.1]; decide)
      · exact absurd (sx_beq h2) g.1
    · rcases hq with g | g | g | g
      · exact absurd (sx_beq h2) (by rw [g.1]; decide)
      · exact Or.inl g.2
      · exact absurd (sx_beq h2) (by rw [g.1]; decide)
      · exact absurd (sx_beq h2) g.2.1
    · exact Or.inr (w50 (sx_beq h2))
  · obtain ⟨h1, h2⟩ := sx_nd h
    exact Or.inr (Or.inr (Or.inl ⟨sx_beq h1, w50 (sx_beq h2)⟩))
theorem ab_lk_s {Y : ab_Y} {r : Nat} {x : ab_I} {v : ab_V} {w : ab_wd} {M : mj_M} {z : Int} (hY : ab_RY w Y) (hx : ab_RI w x z) : ∀ (m : ab_m), ab_lk Y r x m = some v → ab_RM w M m → r < w.2.2.1 ∧ ∃ a, w.2.2.2 r = some a ∧ ab_hv w M a z.toNat v
  | [], h, _ => by cases h
  | (r2, x2, v2) :: t, h, hM => by
    unfold ab_lk at h
    cases hc : (Nat.beq r2 r && ab_sm Y x2 x) with
    | false => rw [hc] at h; exact ab_lk_s hY hx t h (fun e he => hM e (List.mem_cons_of_mem _ he))
    | true =>
      rw [hc] at h
      have h : some v2 = some v := h
      cases h
      obtain ⟨h1, h2⟩ := sx_nd hc
      obtain ⟨g0, a, z2, g1, g2, g4, g3⟩ := hM _ List.mem_cons_self
      have e := sx_beq h1
      have e2 := ab_sm_s hY h2 g2 hx
      dsimp only at g0 g1 g3
      rw [e] at g0 g1
      rw [e2] at g3
      exact ⟨g0, a, g1, g3⟩
theorem ab_hln_s {t a : Nat} {b : Int} {k : Int → Int → Bool} : ∀ (n : Nat) (x l h : Int), ab_hln t a b n x l h k = true → ∃ l' h', k l' h' = true ∧ l' ≤ l ∧ h ≤ h' ∧ ∀ u, x ≤ u → u < x + n → l' ≤ (ab_rg t (Int.ofNat a * u + b).toNat).1 ∧ (ab_rg t (Int.ofNat a * u + b).toNat).2 ≤ h'
  | 0, x, l, h, hk => ⟨l, h, hk, Int.le_refl _, Int.le_refl _, fun u h1 h2 => by omega⟩
  | n + 1, x, l, h, hk => by
    unfold ab_hln at hk
    rw [sx_fi_eq, sx_fi_eq, sx_fi_eq] at hk
    obtain ⟨l', h', g1, g2, g3, g4⟩ := ab_hln_s n _ _ _ hk
    have m1 := ab_mn_s l (ab_rg t (Int.ofNat a * x + b).toNat).1
    have m2 := ab_mx_s h (ab_rg t (Int.ofNat a * x + b).toNat).2
    refine ⟨l', h', g1, by omega, by omega, fun u h1 h2 => ?_⟩
    by_cases e : u = x
    · subst e; exact ⟨by omega, by omega⟩
    · exact g4 u (by omega) (by omega)
theorem ab_rg_arr {t : Nat} (h : ab_per t = false) (h2 : Nat.ble 100 (Nat.mod t 1000) = true) (k : Nat) : ab_rg t k = ab_rga t := by
  unfold ab_rg
  rw [h, h2]
  rfl
theorem ab_hl_s {Y : ab_Y} {t : Nat} {x : ab_I} {k : Int → Int → Bool} {w : ab_wd} {z v : Int} (h : ab_hl Y t x k = true) (hY : ab_RY w Y) (hx : ab_RI w x z) (hv : (ab_rg t z.toNat).1 ≤ v ∧ v ≤ (ab_rg t z.toNat).2) : ∃ lo hi, k lo hi = true ∧ lo ≤ v ∧ v ≤ hi := by
  rcases x with p | ⟨i, a, b⟩
  · have e : p = z := hx
    rw [e] at h
    exact ⟨_, _, h, hv.1, hv.2⟩
  · unfold ab_hl at h
    dsimp only at h
    cases hp : ab_per t with
    | true =>
      rw [hp] at h
      dsimp only [cond_true] at h
      cases hq : ab_ny Y i with
      | none => rw [hq] at h; cases h
      | some q =>
        rw [hq] at h
        dsimp only at h
        obtain ⟨-, h⟩ := sx_cd h
        obtain ⟨l', h', g1, -, -, g4⟩ := ab_hln_s _ _ _ _ h
        obtain ⟨b1, b2, -⟩ := hY.2 i q hq
        have g5 := g4 (w.2.1 i) b1 (by omega)
        rw [hx.2] at g5
        exact ⟨l', h', g1, by omega, by omega⟩
    | false =>
      rw [hp] at h
      dsimp only [cond_false] at h
      obtain ⟨h1, h⟩ := sx_cd h
      rw [ab_rg_arr hp h1] at hv
      exact ⟨_, _, h, hv.1, hv.2⟩
theorem ab_nof {t : Nat} (h : (Nat.beq t 0 || (Nat.beq t 1 || Nat.beq (Nat.mod t 1000) 50)) = false) : t ≠ 0 ∧ t ≠ 1 ∧ t ≠ 50 := by
  refine ⟨fun e => ?_, fun e => ?_, fun e => ?_⟩ <;> (rw [e] at h; cases h)
theorem ab_rdi_s {Y : ab_Y} {R : ab_R} {m : ab_m} {r : Nat} {x : ab_I} {k : ab_I → ab_Y → ab_m → Bool} {w : ab_wd} {G : mj_G} {M : mj_M} {z : Int} (h : ab_rdi Y R m r x k = true) (hY : ab_RY w Y) (hR : ab_RR w G R) (hM : ab_RM w M m) (hI : ab_Inv G M) (hx : ab_RI w x z) (h0 : 0 ≤ z) : r < w.2.2.1 ∧ ∃ a, w.2.2.2 r = some a ∧ ∃ w' v Y' m', ab_ey w w' ∧ ab_RY w' Y' ∧ ab_RM w' M m' ∧ ab_RI w' v (M.1 a z.toNat) ∧ k v Y' m' = true := by
  unfold ab_rdi at h
  cases hl : ab_lk Y r x m with
  | some v =>
    rw [hl] at h
    obtain ⟨g0, a, g1, g2⟩ := ab_lk_s hY hx m hl hM
    rcases v with v | v
    · exact ⟨g0, a, g1, w, v, Y, m, ab_ey.rf, hY, hM, g2, h⟩
    · cases h
  | none =>
    rw [hl] at h
    dsimp only at h
    obtain ⟨t, n, e1, h, e2, e3⟩ := ab_tg_s h hR
    cases hc : (Nat.beq t 0 || (Nat.beq t 1 || Nat.beq (Nat.mod t 1000) 50)) with
    | true => rw [hc] at h; cases h
    | false =>
      rw [hc] at h
      dsimp only [cond_false] at h
      obtain ⟨n1, n2, n3⟩ := ab_nof hc
      obtain ⟨a, a1, a2⟩ := ab_rt_a e2 n1 n2 n3
      have hb := hI.1 a z.toNat
      rw [a2] at hb
      obtain ⟨lo, hi, h, l1, l2⟩ := ab_hl_s h hY hx hb
      obtain ⟨w', v, Y', u1, u2, u3, u4⟩ := ab_fr_s h hY l1 l2 (fun r hr => by cases hr)
      refine ⟨e3, a, a1, w', v, Y', _, u1, u2, fun e he => ?_, u3, u4⟩
      rcases List.mem_cons.mp he with rfl | he
      · exact ⟨Nat.lt_of_lt_of_le e3 u1.1.2.2.1, a, z, by show w'.2.2.2 r = some a; rw [u1.1.2.2.2 r e3]; exact a1, hx.up u1.1, h0, u3⟩
      · exact (hM e he).up u1.1
theorem ab_nw_s {w : ab_wd} {G : mj_G} {R : ab_R} {q : Nat × Nat} {o : Option Nat} (hR : ab_RR w G R) (h : ab_rt G q o) : ∃ w', ab_er w w' ∧ ab_RR w' G (R ++ [q]) ∧ R.length < w'.2.2.1 ∧ w'.2.2.2 R.length = o := by
  have hz : (if w.2.2.1 = w.2.2.1 then o else w.2.2.2 w.2.2.1) = o := if_pos rfl
  refine ⟨(w.1, w.2.1, w.2.2.1 + 1, fun i => if i = w.2.2.1 then o else w.2.2.2 i), ⟨⟨Nat.le_refl _, fun _ _ => rfl, Nat.le_succ _, fun i hi => if_neg (Nat.ne_of_lt hi)⟩, rfl, rfl⟩, ⟨?_, fun i r hr => ?_⟩, ?_, ?_⟩
  · rw [List.length_append, ← hR.1]; rfl
  · rcases ab_nR_app R q i r hr with ⟨e1, e2⟩ | e1
    · rw [← hR.1] at e1
      subst e1
      subst e2
      show ab_rt G r (if w.2.2.1 = w.2.2.1 then o else w.2.2.2 w.2.2.1)
      rw [hz]; exact h
    · show ab_rt G r (if i = w.2.2.1 then o else w.2.2.2 i)
      rw [if_neg (by have := ab_nR_lt e1; rw [← hR.1] at this; omega)]
      exact hR.2 i r e1
  · show R.length < w.2.2.1 + 1
    rw [hR.1]; exact Nat.lt_succ_self _
  · show (if R.length = w.2.2.1 then o else w.2.2.2 R.length) = o
    rw [if_pos hR.1.symm]
theorem ab_rf_arr {t : Nat} (h : 100 ≤ t % 1000) (k : Nat) : ab_rf t k = ab_rfa t := by
  unfold ab_rf
  rw [show Nat.ble 100 (Nat.mod t 1000) = true from Nat.ble_eq.mpr h]
  rfl
theorem ab_rdr_s {Y : ab_Y} {R : ab_R} {m : ab_m} {r : Nat} {x : ab_I} {k : Nat → ab_R → ab_m → Bool} {w : ab_wd} {G : mj_G} {M : mj_M} {z : Int} (h : ab_rdr Y R m r x k = true) (hY : ab_RY w Y) (hR : ab_RR w G R) (hM : ab_RM w M m) (hI : ab_Inv G M) (hx : ab_RI w x z) (h0 : 0 ≤ z) : r < w.2.2.1 ∧ ∃ a, w.2.2.2 r = some a ∧ ∃ w' u R' m', ab_er w w' ∧ ab_RR w' G R' ∧ ab_RM w' M m' ∧ u < w'.2.2.1 ∧ M.2.2 a z.toNat = w'.2.2.2 u ∧ k u R' m' = true := by
  unfold ab_rdr at h
  cases hl : ab_lk Y r x m with
  | some v =>
    rw [hl] at h
    obtain ⟨g0, a, g1, g2⟩ := ab_lk_s hY hx m hl hM
    rcases v with v | v | u
    · cases h
    · cases h
    · exact ⟨g0, a, g1, w, u, R, m, ab_er.rf, hR, hM, g2.1, g2.2, h⟩
  | none =>
    rw [hl] at h
    dsimp only at h
    obtain ⟨t, n, e1, h, e2, e3⟩ := ab_tg_s h hR
    cases hc : (Nat.beq t 0 || (Nat.beq t 1 || Nat.beq (Nat.mod t 1000) 50)) with
    | true => rw [hc] at h; cases h
    | false =>
      rw [hc] at h
      dsimp only [cond_false] at h
      obtain ⟨n1, n2, n3⟩ := ab_nof hc
      obtain ⟨a, a1, a2⟩ := ab_rt_a e2 n1 n2 n3
      obtain ⟨lo, hi, h, l1, l2⟩ := ab_iv_s h hY hx
      obtain ⟨hk, h⟩ := sx_cd h
      cases hf : ab_rf t lo.toNat with
      | none => rw [hf] at h; cases h
      | some q =>
        rw [hf] at h
        dsimp only at h
        have hq : ab_rf (G a).1 z.toNat = some q ∧ (100 ≤ (G a).1 % 1000 → z.toNat < (G a).2) := by
          rw [a2]
          cases hb : Nat.ble 100 (Nat.mod t 1000) with
          | true =>
            rw [hb] at hk
            have hb : 100 ≤ t % 1000 := sx_ble hb
            obtain ⟨k1, k2⟩ := sx_nd hk
            have k1 : 0 ≤ lo := sx_le_iff.mp k1
            rw [Bool.not_eq_true', Bool.eq_false_iff] at k2
            have k2 : hi < (n : Int) := sx_le_no k2
            rw [ab_rf_arr hb] at hf ⊢
            exact ⟨hf, fun _ => by show z.toNat < n; omega⟩
          | false =>
            rw [hb] at hk
            have k1 := sx_eq_iff.mp hk
            have e : z = lo := by omega
            rw [e]
            refine ⟨hf, fun q => ?_⟩
            have hb := Nat.ble_eq.mpr (show 100 ≤ t % 1000 from q)
            rw [show Nat.ble 100 (t % 1000) = Nat.ble 100 (Nat.mod t 1000) from rfl] at hb
            simp_all
        have hr := hI.2.1 a z.toNat q hq.1 hq.2
        obtain ⟨w', u1, u2, u3, u4⟩ := ab_nw_s hR hr
        refine ⟨e3, a, a1, w', R.length, _, _, u1, u2, fun e he => ?_, u3, u4.symm, h⟩
        rcases List.mem_cons.mp he with rfl | he
        · exact ⟨Nat.lt_of_lt_of_le e3 u1.1.2.2.1, a, z, by show w'.2.2.2 r = some a; rw [u1.1.2.2.2 r e3]; exact a1, hx.up u1.1, h0, u3, u4.symm⟩
        · exact (hM e he).up u1.1
end
section
/-! ===== writing ===== -/
theorem ab_dj_s {Y : ab_Y} {x y : ab_I} {w : ab_wd} {zx zy : Int} (hY : ab_RY w Y) (h : ab_dj Y x y = true) (hx : ab_RI w x zx) (hy : ab_RI w y zy) : zx ≠ zy := by
  intro he
  unfold ab_dj at h
  rw [Bool.or_eq_true, Bool.or_eq_true] at h
  rcases h with h | h | h
  · have : zy + 1 ≤ zx := ab_ge_s hY h hx hy
    omega
  · have : zx + 1 ≤ zy := ab_ge_s hY h hy hx
    omega
  · have md : ∀ {a : Nat} {b z v : Int}, Int.ofNat a * v + b = z → (!sx_eq ((z - b) % Int.ofNat a) (.ofNat 0)) = true → False := fun {a b z v} e q => by
      rw [Bool.not_eq_true', Bool.eq_false_iff] at q
      refine q (sx_eq_iff.mpr ?_)
      rw [show z - b = Int.ofNat a * v by omega]
      exact Int.mul_emod_right _ _
    rcases x with p | ⟨i, a, b⟩ <;> rcases y with q | ⟨j, c, d⟩
    · cases h
    · have e1 : p = zx := hx
      exact md (by rw [e1, he]; exact hy.2) h
    · have e1 : q = zy := hy
      exact md (by rw [e1, ← he]; exact hx.2) h
    · obtain ⟨h1, h⟩ := sx_nd h
      obtain ⟨h2, h3⟩ := sx_nd h
      rw [Bool.not_eq_true', Bool.eq_false_iff] at h3
      refine h3 (sx_eq_iff.mpr ?_)
      have e1 := hx.2
      have e2 := hy.2
      rw [← sx_beq h1, ← sx_beq h2] at e2
      omega
/-- behind a write at (a, j): all else as it was -/
def ab_wr1 (M M' : mj_M) (a j : Nat) : Prop := ∀ x k, ¬ (x = a ∧ k = j) → M'.1 x k = M.1 x k ∧ M'.2.2 x k = M.2.2 x k
theorem ab_tag_ne {w : ab_wd} {G : mj_G} {M : mj_M} {t2 n2 t a a2 r2 : Nat} (hI : ab_Inv G M) (h : ab_rt G (t2, n2) (w.2.2.2 r2)) (h2 : w.2.2.2 r2 = some a2) (hne : t2 ≠ t) (ht : t < 900000) (hG : (G a).1 = t) : a2 ≠ a := by
  intro e
  subst e
  rw [h2] at h
  have w50 : (G a2).1 % 1000 = 50 → False := fun q => by
    obtain ⟨k, -, hk⟩ := hI.2.2.1 a2 q
    rw [hk] at hG
    have hG : 900050 + 1000 * k = t := hG
    omega
  rcases h with h | h | h | h
  · rcases h.2 with g | ⟨b, g1, g2⟩
    · cases g
    · cases g1; exact w50 g2
  · cases h.2
  · obtain ⟨b, g1, g2⟩ := h.2
    cases g1; exact w50 g2
  · obtain ⟨b, g1, g2⟩ := h.2.2.2
    cases g1
    rw [g2] at hG
    exact hne hG
theorem ab_hv.keep {w : ab_wd} {M M' : mj_M} {a j a2 k2 : Nat} {v : ab_V} (hw : ab_wr1 M M' a j) (hne : ¬ (a2 = a ∧ k2 = j)) (h : ab_hv w M a2 k2 v) : ab_hv w M' a2 k2 v := by
  obtain ⟨e1, e2⟩ := hw a2 k2 hne
  rcases v with x | x | u
  · show ab_RI w x (M'.1 a2 k2)
    rw [e1]; exact h
  · trivial
  · show u < w.2.2.1 ∧ M'.2.2 a2 k2 = w.2.2.2 u
    rw [e2]; exact h
theorem ab_kl_s {R : ab_R} {t n r a : Nat} {x : ab_I} {v : Option ab_I} {G : mj_G} {M M' : mj_M} {z : Int} (hI : ab_Inv G M) (ht : t < 900000) (hG : G a = (t, n)) (h0 : 0 ≤ z) (hw : ab_wr1 M M' a z.toNat) : ∀ (m : ab_m) (Y : ab_Y) (k : ab_m → ab_Y → Bool) (w : ab_wd), ab_kl R t r x v m Y k = true → ab_RY w Y → ab_RR w G R → ab_RM w M m → ab_RI w x z → w.2.2.2 r = some a → (∀ u, v = some u → ab_RI w u (M'.1 a z.toNat)) → ∃ w' m' Y', ab_ey w w' ∧ ab_RY w' Y' ∧ ab_RM w' M' m' ∧ k m' Y' = true
  | [], Y, k, w, h, hY, _, _, _, _, _ => ⟨w, [], Y, ab_ey.rf, hY, (fun e he => by cases he), h⟩
  | (r2, x2, v2) :: rest, Y, k, w, h, hY, hR, hM, hx, ha, hv => by
    unfold ab_kl at h
    obtain ⟨t2, n2, e1, h, e2, e3⟩ := ab_tg_s h hR
    obtain ⟨g0, a2, z2, g1, g2, g4, g3⟩ := hM _ List.mem_cons_self
    dsimp only at g0 g1 g2 g3
    have hM' : ab_RM w M rest := fun e he => hM e (List.mem_cons_of_mem _ he)
    cases hc : (!Nat.beq t2 t || ab_dj Y x2 x) with
    | true =>
      rw [hc] at h
      dsimp only [cond_true] at h
      have hne : ¬ (a2 = a ∧ z2.toNat = z.toNat) := by
        rw [Bool.or_eq_true] at hc
        rcases hc with hc | hc
        · rw [Bool.not_eq_true', Bool.eq_false_iff] at hc
          have : t2 ≠ t := fun q => hc (by rw [q]; exact Nat.beq_refl t)
          exact fun q => ab_tag_ne hI e2 g1 this ht (by rw [hG]) q.1
        · have := ab_dj_s hY hc g2 hx
          exact fun q => by omega
      obtain ⟨w', m', Y', u1, u2, u3, u4⟩ := ab_kl_s hI ht hG h0 hw rest Y _ w h hY hR hM' hx ha hv
      refine ⟨w', (r2, x2, v2) :: m', Y', u1, u2, fun e he => ?_, u4⟩
      rcases List.mem_cons.mp he with rfl | he
      · exact (show ab_e1 w M' (r2, x2, v2) from ⟨g0, a2, z2, g1, g2, g4, g3.keep hw hne⟩).up u1.1
      · exact u3 e he
    | false =>
      rw [hc] at h
      dsimp only [cond_false] at h
      cases hk : (ab_wk t && (Nat.beq r2 r && !ab_sm Y x2 x)) with
      | false =>
        rw [hk] at h
        exact ab_kl_s hI ht hG h0 hw rest Y k w h hY hR hM' hx ha hv
      | true =>
        rw [hk] at h
        dsimp only [cond_true] at h
        cases v with
        | none => exact ab_kl_s hI ht hG h0 hw rest Y k w h hY hR hM' hx ha hv
        | some v =>
          rcases v2 with u | u
          · dsimp only at h
            have hvv := hv v rfl
            have g3 : ab_RI w u (M.1 a2 z2.toNat) := g3
            obtain ⟨p, q, h, l1, l2⟩ := ab_iv_s h hY hvv
            obtain ⟨c, d, h, l3, l4⟩ := ab_iv_s h hY g3
            have m1 := ab_mn_s p c
            have m2 := ab_mx_s q d
            have hb : ab_mn p c ≤ M'.1 a2 z2.toNat ∧ M'.1 a2 z2.toNat ≤ ab_mx q d := by
              by_cases e : a2 = a ∧ z2.toNat = z.toNat
              · rw [e.1, e.2]; omega
              · rw [(hw a2 _ e).1]; omega
            obtain ⟨w1, q1, Y1, u1, u2, u3, u4⟩ := ab_fr_s h hY hb.1 hb.2 (fun r hr => by cases hr)
            obtain ⟨w', m', Y', o1, o2, o3, o4⟩ := ab_kl_s hI ht hG h0 hw rest Y1 _ w1 u4 u2 (hR.ey u1) (hM'.up u1.1) (hx.up u1.1) (by rw [u1.2]; exact ha) (fun u e => (hv u e).up u1.1)
            refine ⟨w', (r2, x2, .inl q1) :: m', Y', u1.tr o1, o2, fun e he => ?_, o4⟩
            rcases List.mem_cons.mp he with rfl | he
            · exact (show ab_e1 w1 M' (r2, x2, .inl q1) from ⟨Nat.lt_of_lt_of_le g0 u1.1.2.2.1, a2, z2, by rw [u1.2]; exact g1, g2.up u1.1, g4, u3⟩).up o1.1
            · exact o3 e he
          · exact ab_kl_s hI ht hG h0 hw rest Y k w h hY hR hM' hx ha hv
theorem ab_fa_s {t a : Nat} {b lo hi : Int} : ∀ (n : Nat) (x : Int), ab_fa t a b lo hi n x = true → ∀ u, x ≤ u → u < x + n → (ab_rg t (Int.ofNat a * u + b).toNat).1 ≤ lo ∧ hi ≤ (ab_rg t (Int.ofNat a * u + b).toNat).2
  | 0, x, _, u, h1, h2 => by omega
  | n + 1, x, h, u, h1, h2 => by
    unfold ab_fa at h
    obtain ⟨h3, h4⟩ := sx_nd h
    obtain ⟨h5, h6⟩ := sx_nd h3
    rw [sx_fi_eq] at h4
    by_cases e : u = x
    · subst e; exact ⟨sx_le_iff.mp h5, sx_le_iff.mp h6⟩
    · exact ab_fa_s n _ h4 u (by omega) (by omega)
theorem ab_fc_s {t a : Nat} {b : Int} {t2 a2 : Nat} {b2 : Int} : ∀ (n : Nat) (x : Int), ab_fc t a b t2 a2 b2 n x = true → ∀ u, x ≤ u → u < x + n → (ab_rg t (Int.ofNat a * u + b).toNat).1 ≤ (ab_rg t2 (Int.ofNat a2 * u + b2).toNat).1 ∧ (ab_rg t2 (Int.ofNat a2 * u + b2).toNat).2 ≤ (ab_rg t (Int.ofNat a * u + b).toNat).2
  | 0, x, _, u, h1, h2 => by omega
  | n + 1, x, h, u, h1, h2 => by
    unfold ab_fc at h
    obtain ⟨h3, h4⟩ := sx_nd h
    obtain ⟨h5, h6⟩ := sx_nd h3
    rw [sx_fi_eq] at h4
    by_cases e : u = x
    · subst e; exact ⟨sx_le_iff.mp h5, sx_le_iff.mp h6⟩
    · exact ab_fc_s n _ h4 u (by omega) (by omega)
theorem ab_ft_s {Y : ab_Y} {R : ab_R} {m : ab_m} {t : Nat} {x v : ab_I} {w : ab_wd} {G : mj_G} {M : mj_M} {z zv : Int} (h : ab_ft Y R m t x v = true) (hY : ab_RY w Y) (hR : ab_RR w G R) (hM : ab_RM w M m) (hI : ab_Inv G M) (hx : ab_RI w x z) (hv : ab_RI w v zv) : (ab_rg t z.toNat).1 ≤ zv ∧ zv ≤ (ab_rg t z.toNat).2 := by
  rcases x with p | ⟨i, a, b⟩
  · have e : p = z := hx
    rw [e] at h
    obtain ⟨h1, h2⟩ := sx_nd h
    have h1 : _ + 0 ≤ zv := ab_ge_s (y := .inl (ab_rg t z.toNat).1) hY h1 hv rfl
    exact ⟨by omega, ab_le_s hY h2 hv⟩
  · unfold ab_ft at h
    dsimp only at h
    cases hp : ab_per t with
    | true =>
      rw [hp] at h
      dsimp only [cond_true] at h
      cases hq : ab_ny Y i with
      | none => rw [hq] at h; cases h
      | some q =>
        rw [hq] at h
        dsimp only at h
        obtain ⟨-, h⟩ := sx_cd h
        obtain ⟨lo, hi, h, l1, l2⟩ := ab_iv_s h hY hv
        obtain ⟨b1, b2, -⟩ := hY.2 i q hq
        rw [Bool.or_eq_true] at h
        rcases h with h | h
        · have g := ab_fa_s _ _ h (w.2.1 i) b1 (by omega)
          rw [hx.2] at g
          omega
        · obtain ⟨e, he, h⟩ := List.any_eq_true.mp h
          obtain ⟨g0, a2, z2, g1, g2, g4, g3⟩ := hM e he
          obtain ⟨r2, x2, v2⟩ := e
          rcases x2 with p2 | ⟨i2, f2, d2⟩
          · cases h
          · rcases v2 with v2 | v2
            · dsimp only at h g1 g2 g3
              obtain ⟨k1, h⟩ := sx_nd h
              obtain ⟨k2, h⟩ := sx_nd h
              obtain ⟨t2, n2, e1, h, e2, e3⟩ := ab_tg_s h hR
              obtain ⟨k3, h⟩ := sx_nd h
              obtain ⟨k4, h⟩ := sx_nd h
              have k3 := sx_blt k3
              rw [Bool.not_eq_true', Bool.eq_false_iff] at k4
              obtain ⟨a3, o1, o2⟩ := ab_rt_a e2 (by omega) (by omega) (fun q => k4 (by rw [q]; rfl))
              have ea : a3 = a2 := Option.some.inj (o1.symm.trans g1)
              rw [ea] at o2
              have g3 : ab_RI w v2 (M.1 a2 z2.toNat) := g3
              have ev : zv = M.1 a2 z2.toNat := ab_RI.fn hv (ab_ie_s k2 g3)
              have hb := hI.1 a2 z2.toNat
              rw [o2] at hb
              dsimp only at hb
              have g := ab_fc_s _ _ h (w.2.1 i) b1 (by omega)
              have ez := g2.2
              rw [sx_beq k1] at ez
              rw [hx.2, ez] at g
              rw [ev]
              omega
            · cases h
    | false =>
      rw [hp] at h
      dsimp only [cond_false] at h
      obtain ⟨h1, h⟩ := sx_cd h
      obtain ⟨h2, h3⟩ := sx_nd h
      rw [ab_rg_arr hp h1]
      have h2 : _ + 0 ≤ zv := ab_ge_s (y := .inl (ab_rga t).1) hY h2 hv rfl
      exact ⟨by omega, ab_le_s hY h3 hv⟩
theorem ab_cw_s {W : List (Nat × Nat × Nat)} {t : Nat} {lo hi z : Int} (h : ab_cw W t lo hi = true) (h1 : lo ≤ z) (h2 : z ≤ hi) : ab_cov W t z.toNat := by
  obtain ⟨q, hq, h⟩ := List.any_eq_true.mp h
  obtain ⟨h3, h⟩ := sx_nd h
  obtain ⟨h4, h5⟩ := sx_nd h
  have h4 : (q.2.1 : Int) ≤ lo := sx_le_iff.mp h4
  have h5 : hi ≤ (q.2.2 : Int) := sx_le_iff.mp h5
  exact ⟨q, hq, sx_beq h3, by omega, by omega⟩
theorem ab_p0_w {M : mj_M} {a j : Nat} {z : Int} : ab_wr1 M (mj_p0 M a j z) a j := fun x k h => ⟨if_neg h, rfl⟩
theorem ab_p2_w {M : mj_M} {a j : Nat} {o : Option Nat} : ab_wr1 M (mj_p2 M a j o) a j := fun x k h => ⟨rfl, if_neg h⟩
theorem ab_frm.wr {W : List (Nat × Nat × Nat)} {G : mj_G} {M0 M M' : mj_M} {a j : Nat} (h : ab_frm W G M0 M) (hw : ab_wr1 M M' a j) (hc : ab_cov W (G a).1 j) : ab_frm W G M0 M' := fun x k hn => by
  have hne : ¬ (x = a ∧ k = j) := fun q => hn (by rw [q.1, q.2]; exact hc)
  obtain ⟨e1, e2⟩ := hw x k hne
  rw [e1, e2]
  exact h x k hn
theorem ab_Inv.p0 {G : mj_G} {M : mj_M} {a j : Nat} {z : Int} (h : ab_Inv G M) (hz : (ab_rg (G a).1 j).1 ≤ z ∧ z ≤ (ab_rg (G a).1 j).2) : ab_Inv G (mj_p0 M a j z) := by
  refine ⟨fun x k => ?_, h.2⟩
  show _ ≤ (if x = a ∧ k = j then z else M.1 x k) ∧ (if x = a ∧ k = j then z else M.1 x k) ≤ _
  by_cases e : x = a ∧ k = j
  · rw [if_pos e, e.1, e.2]; exact hz
  · rw [if_neg e]; exact h.1 x k
theorem ab_Inv.p2 {G : mj_G} {M : mj_M} {a j : Nat} {o : Option Nat} {q : Nat × Nat} (h : ab_Inv G M) (hq : ab_rf (G a).1 j = some q) (ho : ab_rt G q o) : ab_Inv G (mj_p2 M a j o) := by
  refine ⟨h.1, fun x k p hp hk => ?_, h.2.2⟩
  show ab_rt G p (if x = a ∧ k = j then o else M.2.2 x k)
  by_cases e : x = a ∧ k = j
  · rw [if_pos e]
    rw [e.1, e.2, hq] at hp
    cases hp; exact ho
  · rw [if_neg e]; exact h.2.1 x k p hp hk
theorem ab_Inv.p1 {G : mj_G} {M : mj_M} {a j : Nat} {z : Int64} (h : ab_Inv G M) (hne : (G a).1 ≠ 55103) : ab_Inv G (mj_p1 M a j z) := ⟨h.1, h.2.1, h.2.2.1, h.2.2.2.1, fun x k hx hk => (if_neg (fun e => hne (by rw [← e.1]; exact hx))).trans (h.2.2.2.2 x k hx hk)⟩
theorem ab_t9 {t : Nat} (h : Nat.blt 1 t = true) (h2 : (!Nat.beq t 50) = true) : t ≠ 0 ∧ t ≠ 1 ∧ t ≠ 50 := by
  have := sx_blt h
  rw [Bool.not_eq_true', Bool.eq_false_iff] at h2
  exact ⟨by omega, by omega, fun q => h2 (by rw [q]; rfl)⟩
theorem ab_wri_s {W : List (Nat × Nat × Nat)} {Y : ab_Y} {R : ab_R} {m : ab_m} {r : Nat} {x v : ab_I} {k : ab_Y → ab_m → Bool} {w : ab_wd} {G : mj_G} {M0 M : mj_M} {z zv : Int} (h : ab_wri W Y R m r x v k = true) (hY : ab_RY w Y) (hR : ab_RR w G R) (hM : ab_RM w M m) (hI : ab_Inv G M) (hF : ab_frm W G M0 M) (hx : ab_RI w x z) (h0 : 0 ≤ z) (hv : ab_RI w v zv) : ∃ t n a, ab_nR R r = some (t, n) ∧ w.2.2.2 r = some a ∧ G a = (t, n) ∧ t < 900000 ∧ ab_Inv G (mj_p0 M a z.toNat zv) ∧ ab_frm W G M0 (mj_p0 M a z.toNat zv) ∧ ∃ w' Y' m', ab_ey w w' ∧ ab_RY w' Y' ∧ ab_RM w' (mj_p0 M a z.toNat zv) m' ∧ k Y' m' = true := by
  unfold ab_wri at h
  obtain ⟨t, n, e1, h, e2, e3⟩ := ab_tg_s h hR
  obtain ⟨lo, hi, h, l1, l2⟩ := ab_iv_s h hY hx
  obtain ⟨hc, h⟩ := sx_cd h
  obtain ⟨c1, hc⟩ := sx_nd hc
  obtain ⟨c2, hc⟩ := sx_nd hc
  obtain ⟨c3, hc⟩ := sx_nd hc
  obtain ⟨c4, c5⟩ := sx_nd hc
  obtain ⟨n1, n2, n3⟩ := ab_t9 c2 c3
  obtain ⟨a, a1, a2⟩ := ab_rt_a e2 n1 n2 n3
  have c1 := sx_blt c1
  have hb := ab_ft_s c5 hY hR hM hI hx hv
  have hz : (mj_p0 M a z.toNat zv).1 a z.toNat = zv := if_pos ⟨rfl, rfl⟩
  obtain ⟨w', m', Y', u1, u2, u3, u4⟩ := ab_kl_s (M' := mj_p0 M a z.toNat zv) hI c1 a2 h0 ab_p0_w m Y _ w h hY hR hM hx a1 (fun u e => by cases e; rw [hz]; exact hv)
  refine ⟨t, n, a, e1, a1, a2, c1, hI.p0 (by rw [a2]; exact hb), hF.wr ab_p0_w (by rw [a2]; exact ab_cw_s c4 l1 l2), w', Y', _, u1, u2, fun e he => ?_, u4⟩
  rcases List.mem_cons.mp he with rfl | he
  · refine ⟨Nat.lt_of_lt_of_le e3 u1.1.2.2.1, a, z, by show w'.2.2.2 r = some a; rw [u1.2]; exact a1, hx.up u1.1, h0, ?_⟩
    show ab_RI w' v ((mj_p0 M a z.toNat zv).1 a z.toNat)
    rw [hz]; exact hv.up u1.1
  · exact u3 e he
theorem ab_wrr_s {W : List (Nat × Nat × Nat)} {Y : ab_Y} {R : ab_R} {m : ab_m} {r u : Nat} {x : ab_I} {k : ab_Y → ab_m → Bool} {w : ab_wd} {G : mj_G} {M0 M : mj_M} {z : Int} (h : ab_wrr W Y R m r x u k = true) (hY : ab_RY w Y) (hR : ab_RR w G R) (hM : ab_RM w M m) (hI : ab_Inv G M) (hF : ab_frm W G M0 M) (hx : ab_RI w x z) (h0 : 0 ≤ z) : u < w.2.2.1 ∧ ∃ t n a, ab_nR R r = some (t, n) ∧ w.2.2.2 r = some a ∧ G a = (t, n) ∧ t < 900000 ∧ ab_Inv G (mj_p2 M a z.toNat (w.2.2.2 u)) ∧ ab_frm W G M0 (mj_p2 M a z.toNat (w.2.2.2 u)) ∧ ∃ w' Y' m', ab_ey w w' ∧ ab_RY w' Y' ∧ ab_RM w' (mj_p2 M a z.toNat (w.2.2.2 u)) m' ∧ k Y' m' = true := by
  unfold ab_wrr at h
  obtain ⟨t, n, e1, h, e2, e3⟩ := ab_tg_s h hR
  obtain ⟨tu, nu, f1, h, f2, f3⟩ := ab_tg_s h hR
  obtain ⟨lo, hi, h, l1, l2⟩ := ab_iv_s h hY hx
  obtain ⟨hc, h⟩ := sx_cd h
  obtain ⟨c1, hc⟩ := sx_nd hc
  obtain ⟨c2, hc⟩ := sx_nd hc
  obtain ⟨c3, hc⟩ := sx_nd hc
  obtain ⟨c4, c5⟩ := sx_nd hc
  obtain ⟨n1, n2, n3⟩ := ab_t9 c2 c3
  obtain ⟨a, a1, a2⟩ := ab_rt_a e2 n1 n2 n3
  have c1 := sx_blt c1
  cases hf : ab_rf t lo.toNat with
  | none => rw [hf] at h; cases h
  | some q =>
    rw [hf] at h
    dsimp only at h
    obtain ⟨c6, h⟩ := sx_cd h
    have hq : ab_rf (G a).1 z.toNat = some q := by
      rw [a2]
      cases hb : Nat.ble 100 (Nat.mod t 1000) with
      | true =>
        have hb : 100 ≤ t % 1000 := sx_ble hb
        rw [ab_rf_arr hb] at hf ⊢
        exact hf
      | false =>
        rw [hb] at c5
        have k1 := sx_eq_iff.mp c5
        rw [show z = lo by omega]; exact hf
    have hz : (mj_p2 M a z.toNat (w.2.2.2 u)).2.2 a z.toNat = w.2.2.2 u := if_pos ⟨rfl, rfl⟩
    obtain ⟨w', m', Y', u1, u2, u3, u4⟩ := ab_kl_s (M' := mj_p2 M a z.toNat (w.2.2.2 u)) hI c1 a2 h0 ab_p2_w m Y _ w h hY hR hM hx a1 (fun u e => by cases e)
    refine ⟨f3, t, n, a, e1, a1, a2, c1, hI.p2 hq (ab_ts_s c6 f2), hF.wr ab_p2_w (by rw [a2]; exact ab_cw_s c4 l1 l2), w', Y', _, u1, u2, fun e he => ?_, u4⟩
    rcases List.mem_cons.mp he with rfl | he
    · refine ⟨Nat.lt_of_lt_of_le e3 u1.1.2.2.1, a, z, by show w'.2.2.2 r = some a; rw [u1.2]; exact a1, hx.up u1.1, h0, Nat.lt_of_lt_of_le f3 u1.1.2.2.1, ?_⟩
      rw [hz, u1.2]
    · exact u3 e he
end
section
/-! ===== patterns ===== -/
theorem ab_nt_set {β : Type} : ∀ (L : List (Option β)) (i j : Nat) (x : Option β), sx_nt (L.set i x) j = if j = i ∧ i < L.length then x else sx_nt L j
  | [], i, j, x => by simp [sx_nt]
  | y :: t, 0, 0, x => by simp [sx_nt]
  | y :: t, 0, j + 1, x => by simp [sx_nt]
  | y :: t, i + 1, 0, x => by simp [sx_nt]
  | y :: t, i + 1, j + 1, x => by
    show sx_nt (t.set i x) j = _
    rw [ab_nt_set t i j x]
    simp [sx_nt]
theorem ab_nt_lt {β : Type} : ∀ {L : List (Option β)} {i : Nat} {x : β}, sx_nt L i = some x → i < L.length
  | [], _, _, h => by cases h
  | _ :: _, 0, _, _ => Nat.succ_pos _
  | _ :: t, i + 1, _, h => Nat.succ_lt_succ (ab_nt_lt (L := t) h)
def ab_ev (w : ab_wd) (x : ab_I) : Int := match x with
  | .inl z => z
  | .inr (i, a, b) => Int.ofNat a * w.2.1 i + b
theorem ab_RI.ev {w : ab_wd} {x : ab_I} {z : Int} (h : ab_RI w x z) : ab_ev w x = z := by
  rcases x with p | ⟨i, a, b⟩
  · exact h
  · exact h.2
def ab_ls {β : Type} (l l' : List (Option β)) : Prop := ∀ i x, sx_nt l i = some x → sx_nt l' i = some x
theorem ab_ls.rf {β : Type} {l : List (Option β)} : ab_ls l l := fun _ _ h => h
theorem ab_ls.tr {β : Type} {l l' l'' : List (Option β)} (h : ab_ls l l') (h' : ab_ls l' l'') : ab_ls l l'' := fun i x q => h' i x (h i x q)
theorem ab_ls.set {β : Type} {l : List (Option β)} {i : Nat} {x : β} (h : sx_nt l i = none) : ab_ls l (l.set i (some x)) := fun j y hj => by
  rw [ab_nt_set]
  by_cases e : j = i ∧ i < l.length
  · rw [e.1, h] at hj; cases hj
  · rw [if_neg e]; exact hj
def ab_so (w : ab_wd) (sg : ab_sg) : Prop := ∀ i x, sx_nt sg i = some x → ∃ z, ab_RI w x z
def ab_ro (w : ab_wd) (G : mj_G) (Rp : ab_R) (rf : ab_rr) : Prop := ∀ j u, sx_nt rf j = some u → u < w.2.2.1 ∧ ∀ q, ab_nR Rp j = some q → ab_rt G q (w.2.2.2 u)
theorem ab_so.up {w w' : ab_wd} {sg : ab_sg} (u : ab_up w w') (h : ab_so w sg) : ab_so w' sg := fun i x hx => by
  obtain ⟨z, hz⟩ := h i x hx
  exact ⟨z, hz.up u⟩
theorem ab_ro.up {w w' : ab_wd} {G : mj_G} {Rp : ab_R} {rf : ab_rr} (u : ab_up w w') (h : ab_ro w G Rp rf) : ab_ro w' G Rp rf := fun j v hv => by
  obtain ⟨h1, h2⟩ := h j v hv
  exact ⟨Nat.lt_of_lt_of_le h1 u.2.2.1, fun q hq => by rw [u.2.2.2 v h1]; exact h2 q hq⟩
/-- what a pattern's value stands for -/
def ab_bd (sg : ab_sg) (rf : ab_rr) (w : ab_wd) (p : ab_V) (v : mj_V) : Prop := match p with
  | .inl (.inl z) => v = .inl z
  | .inl (.inr (i, a, b)) => ∃ x zx, sx_nt sg i = some x ∧ ab_RI w x zx ∧ v = .inl (Int.ofNat a * zx + b)
  | .inr (.inl _) => ∃ z, v = .inr (.inl z)
  | .inr (.inr j) => ∃ u, sx_nt rf j = some u ∧ u < w.2.2.1 ∧ v = .inr (.inr (w.2.2.2 u))
theorem ab_bd.up {sg sg' : ab_sg} {rf rf' : ab_rr} {w w' : ab_wd} {p : ab_V} {v : mj_V} (h1 : ab_ls sg sg') (h2 : ab_ls rf rf') (u : ab_up w w') (h : ab_bd sg rf w p v) : ab_bd sg' rf' w' p v := by
  rcases p with (z | ⟨i, a, b⟩) | l | j
  · exact h
  · obtain ⟨x, zx, g1, g2, g3⟩ := h
    exact ⟨x, zx, h1 i x g1, g2.up u, g3⟩
  · exact h
  · obtain ⟨q, g1, g2, g3⟩ := h
    exact ⟨q, h2 j q g1, Nat.lt_of_lt_of_le g2 u.2.2.1, by rw [u.2.2.2 q g2]; exact g3⟩
theorem ab_cp_s {w : ab_wd} {a : Nat} {b zt : Int} {t : ab_I} (h : ab_RI w t zt) : ab_RI w (ab_cp a b t) (Int.ofNat a * zt + b) := by
  rcases t with z | ⟨i, f, q⟩
  · show Int.ofNat a * z + b = _
    rw [show z = zt from h]
  · refine ⟨h.1, ?_⟩
    rw [← h.2, Int.mul_add, ← Int.mul_assoc]
    show Int.ofNat a * Int.ofNat f * w.2.1 i + (Int.ofNat a * q + b) = _
    omega
theorem ab_mv_s {Rp : ab_R} {Y : ab_Y} {R : ab_R} {p u : ab_V} {sg : ab_sg} {rf : ab_rr} {k : ab_sg → ab_rr → Bool} {w : ab_wd} {G : mj_G} {v : mj_V} (h : ab_mv Rp Y R p u sg rf k = true) (hY : ab_RY w Y) (hR : ab_RR w G R) (hv : ab_RV w u v) (hs : ab_so w sg) (hr : ab_ro w G Rp rf) : ∃ sg' rf', ab_ls sg sg' ∧ ab_ls rf rf' ∧ ab_so w sg' ∧ ab_ro w G Rp rf' ∧ ab_bd sg' rf' w p v ∧ k sg' rf' = true := by
  rcases p with (z | ⟨i, a, b⟩) | l | j
  · rcases u with x | u
    · obtain ⟨zv, rfl, hx⟩ := hv
      unfold ab_mv at h
      dsimp only at h
      obtain ⟨lo, hi, h, l1, l2⟩ := ab_iv_s h hY hx
      obtain ⟨hc, h⟩ := sx_cd h
      obtain ⟨c1, c2⟩ := sx_nd hc
      have c1 := sx_eq_iff.mp c1
      have c2 := sx_eq_iff.mp c2
      exact ⟨sg, rf, ab_ls.rf, ab_ls.rf, hs, hr, (by show _ = _; rw [show zv = z by omega]), h⟩
    · cases h
  · rcases u with x | u
    · obtain ⟨zv, rfl, hx⟩ := hv
      unfold ab_mv at h
      dsimp only at h
      cases hq : sx_nt sg i with
      | some t =>
        rw [hq] at h
        obtain ⟨hc, h⟩ := sx_cd h
        obtain ⟨zt, ht⟩ := hs i t hq
        have e := ab_sm_s hY hc (ab_cp_s ht) hx
        exact ⟨sg, rf, ab_ls.rf, ab_ls.rf, hs, hr, ⟨t, zt, hq, ht, by rw [e]⟩, h⟩
      | none =>
        rw [hq] at h
        obtain ⟨hc, h⟩ := sx_cd h
        obtain ⟨c1, hc⟩ := sx_nd hc
        obtain ⟨c2, c3⟩ := sx_nd hc
        have c1 := sx_beq c1
        have c2 : b = 0 := sx_eq_iff.mp c2
        have c3 := sx_blt c3
        refine ⟨_, rf, ab_ls.set hq, ab_ls.rf, fun j y hj => ?_, hr, ⟨x, zv, by rw [ab_nt_set, if_pos ⟨rfl, c3⟩], hx, ?_⟩, h⟩
        · rw [ab_nt_set] at hj
          by_cases e : j = i ∧ i < sg.length
          · rw [if_pos e] at hj; cases hj; exact ⟨zv, hx⟩
          · rw [if_neg e] at hj; exact hs j y hj
        · rw [c1, c2]
          show Sum.inl zv = Sum.inl ((1 : Int) * zv + 0)
          rw [show (1 : Int) * zv + 0 = zv by omega]
    · cases h
  · rcases u with x | u | u
    · cases h
    · exact ⟨sg, rf, ab_ls.rf, ab_ls.rf, hs, hr, hv, h⟩
    · cases h
  · rcases u with x | u | u
    · cases h
    · cases h
    · obtain ⟨hu, rfl⟩ := hv
      unfold ab_mv at h
      dsimp only at h
      cases hq : sx_nt rf j with
      | some t =>
        rw [hq] at h
        obtain ⟨hc, h⟩ := sx_cd h
        have e := sx_beq hc
        exact ⟨sg, rf, ab_ls.rf, ab_ls.rf, hs, hr, ⟨t, hq, by rw [← e]; exact hu, by rw [← e]⟩, h⟩
      | none =>
        rw [hq] at h
        dsimp only at h
        cases hp : ab_nR Rp j with
        | none => rw [hp] at h; cases h
        | some p =>
          rw [hp] at h
          cases hg : ab_nR R u with
          | none => rw [hg] at h; cases h
          | some q =>
            rw [hg] at h
            dsimp only at h
            obtain ⟨hc, h⟩ := sx_cd h
            obtain ⟨c1, c2⟩ := sx_nd hc
            have c2 := sx_blt c2
            refine ⟨sg, _, ab_ls.rf, ab_ls.set hq, hs, fun j' y hj => ?_, ⟨u, by rw [ab_nt_set, if_pos ⟨rfl, c2⟩], hu, rfl⟩, h⟩
            rw [ab_nt_set] at hj
            by_cases e : j' = j ∧ j < rf.length
            · rw [if_pos e] at hj
              cases hj
              refine ⟨hu, fun q' hq' => ?_⟩
              rw [e.1, hp] at hq'
              cases hq'
              exact ab_ts_s c1 (hR.2 u q hg)
            · rw [if_neg e] at hj; exact hr j' y hj
def ab_bl (sg : ab_sg) (rf : ab_rr) (w : ab_wd) : ab_L → mj_L → Prop
  | [], L => L = []
  | none :: s, L => ∃ v L', L = v :: L' ∧ ab_bl sg rf w s L'
  | some x :: s, L => ∃ v L', L = some v :: L' ∧ ab_bd sg rf w x v ∧ ab_bl sg rf w s L'
theorem ab_bl.up {sg sg' : ab_sg} {rf rf' : ab_rr} {w w' : ab_wd} (h1 : ab_ls sg sg') (h2 : ab_ls rf rf') (u : ab_up w w') : ∀ {s : ab_L} {L : mj_L}, ab_bl sg rf w s L → ab_bl sg' rf' w' s L
  | [], _, h => h
  | none :: _, _, h => by
    obtain ⟨v, t, g1, g2⟩ := h
    exact ⟨v, t, g1, g2.up h1 h2 u⟩
  | some _ :: _, _, h => by
    obtain ⟨v, t, g1, g2, g3⟩ := h
    exact ⟨v, t, g1, g2.up h1 h2 u, g3.up h1 h2 u⟩
theorem ab_mvs_s {Rp : ab_R} {Y : ab_Y} {R : ab_R} {w : ab_wd} {G : mj_G} (hY : ab_RY w Y) (hR : ab_RR w G R) : ∀ (ps us : ab_L) (sg : ab_sg) (rf : ab_rr) (k : ab_sg → ab_rr → Bool) (L : mj_L), ab_mvs Rp Y R ps us sg rf k = true → ab_RL w us L → ab_so w sg → ab_ro w G Rp rf → ∃ sg' rf', ab_ls sg sg' ∧ ab_ls rf rf' ∧ ab_so w sg' ∧ ab_ro w G Rp rf' ∧ ab_bl sg' rf' w ps L ∧ k sg' rf' = true
  | [], [], sg, rf, k, L, h, hL, hs, hr => ⟨sg, rf, ab_ls.rf, ab_ls.rf, hs, hr, hL, h⟩
  | [], _ :: _, _, _, _, _, h, _, _, _ => by cases h
  | none :: ps, [], _, _, _, _, h, _, _, _ => by cases h
  | some _ :: ps, [], _, _, _, _, h, _, _, _ => by cases h
  | some _ :: ps, none :: _, _, _, _, _, h, _, _, _ => by cases h
  | none :: ps, u :: us, sg, rf, k, L, h, hL, hs, hr => by
    obtain ⟨v, L', e1, e2⟩ : ∃ v L', L = v :: L' ∧ ab_RL w us L' := by
      cases u with
      | none => exact hL
      | some u => obtain ⟨v, L', g1, -, g2⟩ := hL; exact ⟨some v, L', g1, g2⟩
    obtain ⟨sg', rf', g1, g2, g3, g4, g5, g6⟩ := ab_mvs_s hY hR ps us sg rf k L' h e2 hs hr
    exact ⟨sg', rf', g1, g2, g3, g4, ⟨v, L', e1, g5⟩, g6⟩
  | some p :: ps, some u :: us, sg, rf, k, L, h, hL, hs, hr => by
    obtain ⟨v, L', e1, e2, e3⟩ := hL
    obtain ⟨s1, r1, g1, g2, g3, g4, g5, g6⟩ := ab_mv_s h hY hR e2 hs hr
    obtain ⟨s2, r2, o1, o2, o3, o4, o5, o6⟩ := ab_mvs_s hY hR ps us s1 r1 k L' g6 e3 g3 g4
    exact ⟨s2, r2, g1.tr o1, g2.tr o2, o3, o4, ⟨v, L', e1, g5.up o1 o2 ab_up.rf, o5⟩, o6⟩
def ab_bm (sg : ab_sg) (rf : ab_rr) (w : ab_wd) (M : mj_M) (e : Nat × Nat × ab_V) : Prop := ∃ u a, sx_nt rf e.1 = some u ∧ u < w.2.2.1 ∧ w.2.2.2 u = some a ∧ match e.2.2 with
  | .inl p => ab_bd sg rf w (.inl p) (.inl (M.1 a e.2.1))
  | .inr (.inl _) => True
  | .inr (.inr j) => ab_bd sg rf w (.inr (.inr j)) (.inr (.inr (M.2.2 a e.2.1)))
theorem ab_bm.up {sg sg' : ab_sg} {rf rf' : ab_rr} {w w' : ab_wd} {M : mj_M} {e : Nat × Nat × ab_V} (h1 : ab_ls sg sg') (h2 : ab_ls rf rf') (u : ab_up w w') (h : ab_bm sg rf w M e) : ab_bm sg' rf' w' M e := by
  obtain ⟨q, a, g1, g2, g3, g4⟩ := h
  refine ⟨q, a, h2 _ q g1, Nat.lt_of_lt_of_le g2 u.2.2.1, by rw [u.2.2.2 q g2]; exact g3, ?_⟩
  rcases e with ⟨r, x, p | l | j⟩
  · exact ab_bd.up h1 h2 u g4
  · trivial
  · exact ab_bd.up h1 h2 u g4
theorem ab_mms_s {Rp : ab_R} {G : mj_G} {M : mj_M} (hI : ab_Inv G M) : ∀ (mp : List (Nat × Nat × ab_V)) (Y : ab_Y) (R : ab_R) (m : ab_m) (sg : ab_sg) (rf : ab_rr) (k : ab_sg → ab_rr → ab_Y → ab_R → ab_m → Bool) (w : ab_wd), ab_mms Rp mp Y R m sg rf k = true → ab_RY w Y → ab_RR w G R → ab_RM w M m → ab_so w sg → ab_ro w G Rp rf → ∃ sg' rf' w' Y' R' m', ab_up w w' ∧ ab_RY w' Y' ∧ ab_RR w' G R' ∧ ab_RM w' M m' ∧ ab_ls sg sg' ∧ ab_ls rf rf' ∧ ab_so w' sg' ∧ ab_ro w' G Rp rf' ∧ (∀ e ∈ mp, ab_bm sg' rf' w' M e) ∧ k sg' rf' Y' R' m' = true
  | [], Y, R, m, sg, rf, k, w, h, hY, hR, hM, hs, hr => ⟨sg, rf, w, Y, R, m, ab_up.rf, hY, hR, hM, ab_ls.rf, ab_ls.rf, hs, hr, (fun e he => by cases he), h⟩
  | (r, x, .inr (.inl _)) :: t, _, _, _, _, _, _, _, h, _, _, _, _, _ => by cases h
  | (r, x, .inl p) :: t, Y, R, m, sg, rf, k, w, h, hY, hR, hM, hs, hr => by
    unfold ab_mms at h
    cases hq : sx_nt rf r with
    | none => rw [hq] at h; cases h
    | some r' =>
      rw [hq] at h
      dsimp only at h
      obtain ⟨hr', a, a1, w1, v, Y1, m1, u1, u2, u3, u4, u5⟩ := ab_rdi_s h hY hR hM hI (z := Int.ofNat x) rfl (Int.natCast_nonneg x)
      have u4 : ab_RI w1 v (M.1 a x) := u4
      obtain ⟨s2, r2, g1, g2, g3, g4, g5, g6⟩ := ab_mv_s (v := .inl (M.1 a x)) u5 u2 (hR.ey u1) ⟨_, rfl, u4⟩ (hs.up u1.1) (hr.up u1.1)
      obtain ⟨s3, r3, w3, Y3, R3, m3, o1, o2, o3, o4, o5, o6, o7, o8, o9, o10⟩ := ab_mms_s hI t Y1 R m1 s2 r2 k w1 g6 u2 (hR.ey u1) u3 g3 g4
      refine ⟨s3, r3, w3, Y3, R3, m3, u1.1.tr o1, o2, o3, o4, g1.tr o5, g2.tr o6, o7, o8, fun e he => ?_, o10⟩
      rcases List.mem_cons.mp he with rfl | he
      · exact ab_bm.up o5 o6 o1 (show ab_bm s2 r2 w1 M (r, x, .inl p) from ⟨r', a, g2 _ _ hq, Nat.lt_of_lt_of_le hr' u1.1.2.2.1, by rw [u1.2]; exact a1, g5⟩)
      · exact o9 e he
  | (r, x, .inr (.inr j)) :: t, Y, R, m, sg, rf, k, w, h, hY, hR, hM, hs, hr => by
    unfold ab_mms at h
    cases hq : sx_nt rf r with
    | none => rw [hq] at h; cases h
    | some r' =>
      rw [hq] at h
      dsimp only at h
      obtain ⟨hr', a, a1, w1, v, R1, m1, u1, u2, u3, u4, u5, u6⟩ := ab_rdr_s h hY hR hM hI (z := Int.ofNat x) rfl (Int.natCast_nonneg x)
      have u5 : M.2.2 a x = w1.2.2.2 v := u5
      obtain ⟨s2, r2, g1, g2, g3, g4, g5, g6⟩ := ab_mv_s (v := .inr (.inr (M.2.2 a x))) u6 (hY.er u1) u2 ⟨u4, by rw [u5]⟩ (hs.up u1.1) (hr.up u1.1)
      obtain ⟨s3, r3, w3, Y3, R3, m3, o1, o2, o3, o4, o5, o6, o7, o8, o9, o10⟩ := ab_mms_s hI t Y R1 m1 s2 r2 k w1 g6 (hY.er u1) u2 u3 g3 g4
      refine ⟨s3, r3, w3, Y3, R3, m3, u1.1.tr o1, o2, o3, o4, g1.tr o5, g2.tr o6, o7, o8, fun e he => ?_, o10⟩
      rcases List.mem_cons.mp he with rfl | he
      · exact ab_bm.up o5 o6 o1 (show ab_bm s2 r2 w1 M (r, x, .inr (.inr j)) from ⟨r', a, g2 _ _ hq, Nat.lt_of_lt_of_le hr' u1.1.2.2.1, by rw [u1.1.2.2.2 r' hr']; exact a1, g5⟩)
      · exact o9 e he
theorem ab_mb_s {Y : ab_Y} {sg0 : ab_sg} {w : ab_wd} (hY : ab_RY w Y) (hs : ab_so w sg0) : ∀ (Yp : ab_Y) (sg : ab_sg), ab_mb Y sg0 Yp sg = true → ab_so w sg → Yp.length = sg.length ∧ ∀ i q, ab_ny Yp i = some q → ∃ x z, sx_nt sg i = some x ∧ ab_RI w x z ∧ q.1 ≤ z ∧ z ≤ q.2.1 ∧ ∀ r ∈ q.2.2, ∃ y zy, sx_nt sg0 r.1 = some y ∧ ab_RI w y zy ∧ zy + r.2 ≤ z
  | [], [], _, _ => ⟨rfl, fun i q h => by cases h⟩
  | [], _ :: _, h, _ => by cases h
  | (lo, hi, rel) :: t, [], h, _ => by cases h
  | (lo, hi, rel) :: t, none :: g, h, _ => by cases h
  | (lo, hi, rel) :: t, some x :: g, h, hg => by
    unfold ab_mb at h
    obtain ⟨h1, h⟩ := sx_nd h
    obtain ⟨h2, h⟩ := sx_nd h
    obtain ⟨h3, h⟩ := sx_nd h
    obtain ⟨e1, e2⟩ := ab_mb_s hY hs t g h (fun i x hx => hg (i + 1) x hx)
    obtain ⟨z, hz⟩ := hg 0 x rfl
    refine ⟨by simp [e1], fun i q hq => ?_⟩
    cases i with
    | zero =>
      cases hq
      have h1 : lo + 0 ≤ z := ab_ge_s (y := .inl lo) hY h1 hz rfl
      refine ⟨x, z, rfl, hz, by show lo ≤ z; omega, ab_le_s hY h2 hz, fun r hr => ?_⟩
      have h4 := List.all_eq_true.mp h3 r hr
      cases hy : sx_nt sg0 r.1 with
      | none => rw [hy] at h4; cases h4
      | some y =>
        rw [hy] at h4
        obtain ⟨zy, hzy⟩ := hs r.1 y hy
        exact ⟨y, zy, rfl, hzy, ab_ge_s hY h4 hz hzy⟩
    | succ i => exact e2 i q hq
/-- the world of a pattern -/
def ab_wp (P : ab_pt) (sg : ab_sg) (rf : ab_rr) (w : ab_wd) : ab_wd := (P.1.length, fun i => match sx_nt sg i with
  | some x => ab_ev w x
  | none => 0, P.2.1.length, fun j => match sx_nt rf j with
  | some u => w.2.2.2 u
  | none => none)
theorem ab_wp_r {P : ab_pt} {sg : ab_sg} {rf : ab_rr} {w : ab_wd} {i : Nat} {x : ab_I} {z : Int} (h : sx_nt sg i = some x) (hz : ab_RI w x z) : (ab_wp P sg rf w).2.1 i = z := by
  show (match sx_nt sg i with | some x => ab_ev w x | none => 0) = z
  rw [h]; exact hz.ev
theorem ab_wp_s {P : ab_pt} {sg : ab_sg} {rf : ab_rr} {w : ab_wd} {j u : Nat} (h : sx_nt rf j = some u) : (ab_wp P sg rf w).2.2.2 j = w.2.2.2 u := by
  show (match sx_nt rf j with | some u => w.2.2.2 u | none => none) = _
  rw [h]
theorem ab_bd_RV {P : ab_pt} {sg : ab_sg} {rf : ab_rr} {w : ab_wd} {p : ab_V} {v : mj_V} (h1 : sg.length = P.1.length) (h2 : rf.length = P.2.1.length) (h : ab_bd sg rf w p v) : ab_RV (ab_wp P sg rf w) p v := by
  rcases p with (z | ⟨i, a, b⟩) | l | j
  · exact ⟨z, h, rfl⟩
  · obtain ⟨x, zx, g1, g2, g3⟩ := h
    refine ⟨_, g3, by show i < P.1.length; rw [← h1]; exact ab_nt_lt g1, ?_⟩
    rw [ab_wp_r g1 g2]
  · exact h
  · obtain ⟨u, g1, g2, g3⟩ := h
    exact ⟨by show j < P.2.1.length; rw [← h2]; exact ab_nt_lt g1, by rw [ab_wp_s g1]; exact g3⟩
theorem ab_bl_RL {P : ab_pt} {sg : ab_sg} {rf : ab_rr} {w : ab_wd} (h1 : sg.length = P.1.length) (h2 : rf.length = P.2.1.length) : ∀ {s : ab_L} {L : mj_L}, ab_bl sg rf w s L → ab_RL (ab_wp P sg rf w) s L
  | [], _, h => h
  | none :: _, _, h => by
    obtain ⟨v, t, g1, g2⟩ := h
    exact ⟨v, t, g1, ab_bl_RL h1 h2 g2⟩
  | some _ :: _, _, h => by
    obtain ⟨v, t, g1, g2, g3⟩ := h
    exact ⟨v, t, g1, ab_bd_RV h1 h2 g2, ab_bl_RL h1 h2 g3⟩
theorem ab_mt_s {P : ab_pt} {us : ab_L} {sg : ab_sg} {rf : ab_rr} {Y : ab_Y} {R : ab_R} {m : ab_m} {k : ab_sg → ab_rr → ab_Y → ab_R → ab_m → Bool} {w : ab_wd} {G : mj_G} {M : mj_M} {L : mj_L} (h : ab_mt P us sg rf Y R m k = true) (hY : ab_RY w Y) (hR : ab_RR w G R) (hM : ab_RM w M m) (hI : ab_Inv G M) (hL : ab_RL w us L) (hs : ab_so w sg) (hr : ab_ro w G P.2.1 rf) :
    ∃ sg' rf' w' Y' R' m', ab_up w w' ∧ ab_RY w' Y' ∧ ab_RR w' G R' ∧ ab_RM w' M m' ∧ ab_ls sg sg' ∧ ab_ls rf rf' ∧ ab_so w' sg' ∧ ab_ro w' G P.2.1 rf' ∧ ab_RY (ab_wp P sg' rf' w') P.1 ∧ ab_RR (ab_wp P sg' rf' w') G P.2.1 ∧ ab_RM (ab_wp P sg' rf' w') M (ab_mk P.2.2.1) ∧ ab_RL (ab_wp P sg' rf' w') P.2.2.2 L ∧ P.1.length = sg'.length ∧ rf'.length = P.2.1.length ∧ k sg' rf' Y' R' m' = true := by
  unfold ab_mt at h
  obtain ⟨s1, r1, g1, g2, g3, g4, g5, h⟩ := ab_mvs_s hY hR _ _ _ _ _ L h hL hs hr
  obtain ⟨s2, r2, w2, Y2, R2, m2, o1, o2, o3, o4, o5, o6, o7, o8, o9, h⟩ := ab_mms_s hI _ _ _ _ _ _ _ w h hY hR hM g3 g4
  obtain ⟨hc, h⟩ := sx_cd h
  obtain ⟨c1, hc⟩ := sx_nd hc
  obtain ⟨c2, c3⟩ := sx_nd hc
  have c3 := sx_beq c3
  obtain ⟨e1, e2⟩ := ab_mb_s o2 o7 _ _ c1 o7
  refine ⟨s2, r2, w2, Y2, R2, m2, o1, o2, o3, o4, g1.tr o5, g2.tr o6, o7, o8, ⟨rfl, fun i q hq => ?_⟩, ⟨rfl, fun j q hq => ?_⟩, fun e he => ?_, ab_bl_RL e1.symm c3 (g5.up o5 o6 o1), e1, c3, h⟩
  · obtain ⟨x, z, f1, f2, f3, f4, f5⟩ := e2 i q hq
    unfold ab_q1
    rw [ab_wp_r f1 f2]
    refine ⟨f3, f4, fun r hr => ?_⟩
    obtain ⟨y, zy, k1, k2, k3⟩ := f5 r hr
    rw [ab_wp_r k1 k2]
    exact ⟨by show r.1 < P.1.length; rw [e1]; exact ab_nt_lt k1, k3⟩
  · have hj : j < r2.length := by rw [c3]; exact ab_nR_lt hq
    have hb : ∃ u, sx_nt r2 j = some u := by
      have key : ∀ (l : ab_rr) (j : Nat), l.all Option.isSome = true → j < l.length → ∃ u, sx_nt l j = some u := by
        intro l
        induction l with
        | nil => intro j _ hj; simp at hj
        | cons y t ih =>
          intro j ha hj
          rw [List.all_cons, Bool.and_eq_true] at ha
          cases j with
          | zero =>
            cases y with
            | none => cases ha.1
            | some u => exact ⟨u, rfl⟩
          | succ j => exact ih j ha.2 (by simp at hj; omega)
      exact key r2 j c2 hj
    obtain ⟨u, hu⟩ := hb
    rw [ab_wp_s hu]
    exact (o8 j u hu).2 q hq
  · obtain ⟨e0, he0, rfl⟩ := List.mem_map.mp he
    obtain ⟨u, a, f1, f2, f3, f4⟩ := o9 e0 he0
    obtain ⟨r, x, p⟩ := e0
    refine ⟨by show r < P.2.1.length; rw [← c3]; exact ab_nt_lt f1, a, Int.ofNat x, by rw [ab_wp_s f1]; exact f3, rfl, Int.natCast_nonneg x, ?_⟩
    rcases p with p | l | j
    · obtain ⟨z, q1, q2⟩ := ab_bd_RV (P := P) e1.symm c3 f4
      cases q1
      exact q2
    · trivial
    · obtain ⟨q1, q2⟩ := ab_bd_RV (P := P) e1.symm c3 f4
      refine ⟨q1, ?_⟩
      have q2 : (Sum.inr (Sum.inr (M.2.2 a x)) : mj_V) = .inr (.inr ((ab_wp P s2 r2 w2).2.2.2 j)) := q2
      exact Sum.inr.inj (Sum.inr.inj q2)
end
section
/-! ===== contracts: what comes back; calls; arrivals ===== -/
def ab_xh (w : ab_wd) (X : ab_X) (z : Int) : Prop := match X with
  | .inl c => z = c
  | .inr (.inl (j, b)) => z = w.2.1 j + b
  | .inr (.inr (lo, hi, rel)) => lo ≤ z ∧ z ≤ hi ∧ ∀ j d, rel = some (j, d) → w.2.1 j + d ≤ z
def ab_rh (w : ab_wd) (G : mj_G) (p : Option (ab_X ⊕ (Unit ⊕ (Nat × Nat)))) (r : Option mj_V) : Prop := match p with
  | none => r = none
  | some (.inl X) => ∃ z, r = some (.inl z) ∧ ab_xh w X z
  | some (.inr (.inl _)) => ∃ l, r = some (.inr (.inl l))
  | some (.inr (.inr q)) => ∃ o, r = some (.inr (.inr o)) ∧ ab_rt G q o
def ab_ph (w : ab_wd) (G : mj_G) (po : ab_po) (r : Option mj_V) (M : mj_M) : Prop := ab_rh w G po.1 r ∧ ∀ e ∈ po.2, ∃ a, w.2.2.2 e.1 = some a ∧ ab_xh w e.2.2 (M.1 a e.2.1)
/-- a contract holds -/
def ab_ok (c : ab_co) : Prop := ∀ dd, ab_h c ≤ dd → ∀ (G : mj_G) (M : mj_M) (w : ab_wd) (av : List mj_V) (Q : mj_P), ab_RY w (ab_p c).1 → ab_RR w G (ab_p c).2.1 → ab_RM w M (ab_mk (ab_p c).2.2.1) → ab_RL w (ab_p c).2.2.2 (av.map some) → ab_Inv G M → (∀ r M', ab_Inv G M' → ab_frm (ab_w c) G M M' → (∃ po ∈ ab_o c, ab_ph w G po r M') → Q r G M') → mj_R mj_tab (dd + 1) (ab_y c) av G M Q
theorem ab_xi_s {sg : ab_sg} {Y : ab_Y} {X : ab_X} {k : ab_I → ab_Y → Bool} {w wp : ab_wd} {z : Int} (h : ab_xi sg Y X k = true) (hY : ab_RY w Y) (hs : ab_so w sg) (hp : ∀ i x z, sx_nt sg i = some x → ab_RI w x z → wp.2.1 i = z) (hx : ab_xh wp X z) : ab_ok3 w k z := by
  rcases X with c | ⟨j, b⟩ | ⟨lo, hi, rel⟩
  · exact ab_hc hY (show c = z from (show z = c from hx).symm) h
  · unfold ab_xi at h
    dsimp only at h
    have hx : z = wp.2.1 j + b := hx
    cases hq : sx_nt sg j with
    | none => rw [hq] at h; cases h
    | some t =>
      rw [hq] at h
      obtain ⟨zt, ht⟩ := hs j t hq
      have e := hp j t zt hq ht
      rcases t with p | ⟨i, a, q⟩
      · dsimp only at h
        rw [sx_fi_eq] at h
        have ep : p = zt := ht
        exact ab_hc hY (show p + b = z by omega) h
      · have et := ht.2
        exact ab_hs hY ht.1 (by omega) (ab_c1_s h)
  · obtain ⟨h1, h2, h3⟩ := hx
    have nil : ab_fr Y lo hi [] k = true → ab_ok3 w k z := fun h => ab_fr_s h hY h1 h2 (fun r hr => by cases hr)
    rcases rel with _ | ⟨j, d⟩
    · exact nil h
    · unfold ab_xi at h
      dsimp only at h
      have h3 := h3 j d rfl
      cases hq : sx_nt sg j with
      | none => rw [hq] at h; cases h
      | some t =>
        rw [hq] at h
        obtain ⟨zt, ht⟩ := hs j t hq
        have e := hp j t zt hq ht
        rcases t with p | ⟨i, a, q⟩
        · dsimp only at h
          have ep : p = zt := ht
          refine ab_fr_s h hY ?_ h2 (fun r hr => by cases hr)
          rcases ab_mx_or lo (p + d) with g | g <;> rw [g] <;> omega
        · have et := ht.2
          have hi' := ht.1
          clear ht hq
          split at h
          · rename_i eq1
            cases eq1
          · rename_i eq1
            cases eq1
          · rename_i i' q' eq1
            cases eq1
            rw [sx_fi_eq] at h
            refine ab_fr_s h hY h1 h2 (fun r hr => ?_)
            have er : r = (i, q + d) := by simpa using hr
            subst er
            have h4 : Int.ofNat 1 * w.2.1 i = w.2.1 i := Int.one_mul _
            exact ⟨hi', by show w.2.1 i + (q + d) ≤ z; omega⟩
          · exact nil h
theorem ab_pi_s {sg : ab_sg} {rf : ab_rr} {wp : ab_wd} {M' : mj_M} : ∀ (ms : List (Nat × Nat × ab_X)) (Y : ab_Y) (m : ab_m) (k : ab_Y → ab_m → Bool) (w : ab_wd), ab_pi sg rf ms Y m k = true → ab_RY w Y → ab_RM w M' m → ab_so w sg → (∀ i x z, sx_nt sg i = some x → ab_RI w x z → wp.2.1 i = z) → (∀ j u, sx_nt rf j = some u → u < w.2.2.1 ∧ wp.2.2.2 j = w.2.2.2 u) → (∀ e ∈ ms, ∃ a, wp.2.2.2 e.1 = some a ∧ ab_xh wp e.2.2 (M'.1 a e.2.1)) → ∃ w' Y' m', ab_ey w w' ∧ ab_RY w' Y' ∧ ab_RM w' M' m' ∧ k Y' m' = true
  | [], Y, m, k, w, h, hY, hM, _, _, _, _ => ⟨w, Y, m, ab_ey.rf, hY, hM, h⟩
  | (r, x, X) :: t, Y, m, k, w, h, hY, hM, hs, hp, hr, hms => by
    unfold ab_pi at h
    cases hq : sx_nt rf r with
    | none => rw [hq] at h; cases h
    | some r' =>
      rw [hq] at h
      dsimp only at h
      obtain ⟨a, a1, a2⟩ := hms _ List.mem_cons_self
      obtain ⟨k1, k2⟩ := hr r r' hq
      obtain ⟨w1, v, Y1, u1, u2, u3, u4⟩ := ab_xi_s h hY hs hp a2
      have hp1 : ∀ i x z, sx_nt sg i = some x → ab_RI w1 x z → wp.2.1 i = z := fun i x z h1 h2 => by
        obtain ⟨z0, h3⟩ := hs i x h1
        rw [ab_RI.fn h2 (h3.up u1.1)]
        exact hp i x z0 h1 h3
      obtain ⟨w2, Y2, m2, o1, o2, o3, o4⟩ := ab_pi_s t Y1 _ k w1 u4 u2 (fun e he => by
        rcases List.mem_cons.mp he with rfl | he
        · exact ⟨Nat.lt_of_lt_of_le k1 u1.1.2.2.1, a, Int.ofNat x, by show w1.2.2.2 r' = some a; rw [u1.2, ← k2]; exact a1, rfl, Int.natCast_nonneg x, u3⟩
        · exact (hM e he).up u1.1) (hs.up u1.1) hp1 (fun j u hj => ⟨Nat.lt_of_lt_of_le (hr j u hj).1 u1.1.2.2.1, by rw [u1.2]; exact (hr j u hj).2⟩) (fun e he => hms e (List.mem_cons_of_mem _ he))
      exact ⟨w2, Y2, m2, u1.tr o1, o2, o3, o4⟩
def ab_ov (w : ab_wd) (r : Option ab_V) (r' : Option mj_V) : Prop := match r with
  | none => r' = none
  | some v => ∃ v', r' = some v' ∧ ab_RV w v v'
theorem ab_ri_s {sg : ab_sg} {Y : ab_Y} {R : ab_R} {p : Option (ab_X ⊕ (Unit ⊕ (Nat × Nat)))} {k : Option ab_V → ab_Y → ab_R → Bool} {w wp : ab_wd} {G : mj_G} {r : Option mj_V} (h : ab_ri sg Y R p k = true) (hY : ab_RY w Y) (hR : ab_RR w G R) (hs : ab_so w sg) (hp : ∀ i x z, sx_nt sg i = some x → ab_RI w x z → wp.2.1 i = z) (hr : ab_rh wp G p r) : ∃ w' rv Y' R', ab_up w w' ∧ ab_RY w' Y' ∧ ab_RR w' G R' ∧ ab_ov w' rv r ∧ k rv Y' R' = true := by
  rcases p with _ | X | l | q
  · exact ⟨w, none, Y, R, ab_up.rf, hY, hR, hr, h⟩
  · obtain ⟨z, rfl, hx⟩ := hr
    have h : ab_xi sg Y X (fun v Y => k (some (.inl v)) Y R) = true := h
    obtain ⟨w1, v, Y1, u1, u2, u3, u4⟩ := ab_xi_s h hY hs hp hx
    exact ⟨w1, some (.inl v), Y1, R, u1.1, u2, hR.ey u1, ⟨_, rfl, z, rfl, u3⟩, u4⟩
  · obtain ⟨l, rfl⟩ := hr
    exact ⟨w, some (.inr (.inl ())), Y, R, ab_up.rf, hY, hR, ⟨_, rfl, l, rfl⟩, h⟩
  · obtain ⟨o, rfl, ho⟩ := hr
    obtain ⟨w1, u1, u2, u3, u4⟩ := ab_nw_s hR ho
    exact ⟨w1, some (.inr (.inr R.length)), Y, R ++ [q], u1.1, hY.er u1, u2, ⟨_, rfl, u3, by rw [u4]⟩, h⟩
theorem ab_kw_s {W : List (Nat × Nat × Nat)} {Y : ab_Y} {R : ab_R} {m : ab_m} {w : ab_wd} {G : mj_G} {M M' : mj_M} (hY : ab_RY w Y) (hR : ab_RR w G R) (hM : ab_RM w M m) (hF : ab_frm W G M M') : ab_RM w M' (ab_kw W Y R m) := by
  intro e he
  obtain ⟨he, h⟩ := List.mem_filter.mp he
  obtain ⟨g0, a, z, g1, g2, g4, g3⟩ := hM e he
  obtain ⟨t, n, e1, h, e2, e3⟩ := ab_tg_s h hR
  obtain ⟨c1, h⟩ := sx_nd h
  obtain ⟨c2, h⟩ := sx_nd h
  obtain ⟨n1, n2, n3⟩ := ab_t9 c1 c2
  obtain ⟨a', a1, a2⟩ := ab_rt_a e2 n1 n2 n3
  have ea : a' = a := Option.some.inj (a1.symm.trans g1)
  rw [ea] at a2
  obtain ⟨lo, hi, h, l1, l2⟩ := ab_iv_s h hY g2
  have hn : ¬ ab_cov W (G a).1 z.toNat := by
    rintro ⟨q, hq, q1, q2, q3⟩
    rw [Bool.not_eq_true', Bool.eq_false_iff] at h
    refine h (List.any_eq_true.mpr ⟨q, hq, ?_⟩)
    rw [a2] at q1
    have q1 : q.1 = t := q1
    rw [Bool.and_eq_true, Bool.and_eq_true, sx_le_iff, sx_le_iff, q1]
    exact ⟨Nat.beq_refl t, by show lo ≤ (q.2.2 : Int); omega, by show (q.2.1 : Int) ≤ hi; omega⟩
  obtain ⟨f1, f2⟩ := hF a z.toNat hn
  refine ⟨g0, a, z, g1, g2, g4, ?_⟩
  obtain ⟨r, x, v⟩ := e
  rcases v with v | v | v
  · show ab_RI w v (M'.1 a z.toNat)
    rw [f1]; exact g3
  · trivial
  · show v < w.2.2.1 ∧ M'.2.2 a z.toNat = w.2.2.2 v
    rw [f2]; exact g3
theorem ab_cov_all {W W' : List (Nat × Nat × Nat)} (h : W.all (fun e => ab_cw W' e.1 (.ofNat e.2.1) (.ofNat e.2.2)) = true) {t k : Nat} (hc : ab_cov W t k) : ab_cov W' t k := by
  obtain ⟨q, hq, q1, q2, q3⟩ := hc
  have h1 := List.all_eq_true.mp h q hq
  have h2 := ab_cw_s (z := (k : Int)) h1 (by show (q.2.1 : Int) ≤ (k : Int); omega) (by show (k : Int) ≤ (q.2.2 : Int); omega)
  rw [q1] at h2
  exact h2
theorem ab_xx_s {Y : ab_Y} {x : ab_I} {X : ab_X} {w w0 : ab_wd} {z : Int} (h : ab_xx Y x X = true) (hk : ab_xk w0.1 X = true) (hY : ab_RY w Y) (hu : ab_up w0 w) (hx : ab_RI w x z) : ab_xh w0 X z := by
  have rig : ∀ {j : Nat} {b : Int}, j < w0.1 → ab_RI w (.inr (j, 1, b)) (w0.2.1 j + b) := fun {j b} hj => by
    refine ⟨Nat.lt_of_lt_of_le hj hu.1, ?_⟩
    rw [hu.2.1 j hj]
    have : Int.ofNat 1 * w0.2.1 j = w0.2.1 j := Int.one_mul _
    omega
  rcases X with c | ⟨j, b⟩ | ⟨lo, hi, rel⟩
  · exact ab_sm_s (y := .inl c) hY h hx rfl
  · exact ab_sm_s hY h hx (rig (sx_blt hk))
  · unfold ab_xx at h
    dsimp only at h
    obtain ⟨h1, h⟩ := sx_nd h
    obtain ⟨h2, h3⟩ := sx_nd h
    have h1 : lo + 0 ≤ z := ab_ge_s (y := .inl lo) hY h1 hx rfl
    refine ⟨by omega, ab_le_s hY h2 hx, fun j d e => ?_⟩
    subst e
    have g := ab_ge_s hY h3 hx (rig (b := .ofNat 0) (sx_blt hk))
    have g : w0.2.1 j + 0 + d ≤ z := g
    omega
theorem ab_pm_s {R : ab_R} {w0 : ab_wd} {G : mj_G} {M : mj_M} (hI : ab_Inv G M) : ∀ (ms : List (Nat × Nat × ab_X)) (Y : ab_Y) (m : ab_m) (w : ab_wd), ab_pm R ms Y m = true → ms.all (fun e => Nat.blt e.1 w0.2.2.1 && ab_xk w0.1 e.2.2) = true → ab_RY w Y → ab_RR w G R → ab_RM w M m → ab_up w0 w → ∀ e ∈ ms, ∃ a, w0.2.2.2 e.1 = some a ∧ ab_xh w0 e.2.2 (M.1 a e.2.1)
  | [], _, _, _, _, _, _, _, _, _, e, he => by cases he
  | (r, x, X) :: t, Y, m, w, h, hk, hY, hR, hM, hu, e, he => by
    unfold ab_pm at h
    rw [List.all_cons, Bool.and_eq_true, Bool.and_eq_true] at hk
    obtain ⟨hr', a, a1, w1, v, Y1, m1, u1, u2, u3, u4, u5⟩ := ab_rdi_s h hY hR hM hI (z := Int.ofNat x) rfl (Int.natCast_nonneg x)
    obtain ⟨h1, h2⟩ := sx_nd u5
    rcases List.mem_cons.mp he with rfl | he
    · refine ⟨a, ?_, ab_xx_s h1 hk.1.2 u2 (hu.tr u1.1) u4⟩
      rw [← hu.2.2.2 r (sx_blt hk.1.1)]; exact a1
    · exact ab_pm_s hI t Y1 m1 w1 h2 hk.2 u2 (hR.ey u1) u3 (hu.tr u1.1) e he
theorem ab_pr_s {Y : ab_Y} {R : ab_R} {p : Option (ab_X ⊕ (Unit ⊕ (Nat × Nat)))} {r : Option ab_V} {r' : Option mj_V} {w w0 : ab_wd} {G : mj_G} (h : ab_pr Y R p r = true) (hk : ab_k0 w0.1 p = true) (hY : ab_RY w Y) (hR : ab_RR w G R) (hu : ab_up w0 w) (hr : ab_ov w r r') : ab_rh w0 G p r' := by
  rcases p with _ | X | l | q
  · rcases r with _ | v
    · exact hr
    · cases h
  · rcases r with _ | v | v
    · cases h
    · obtain ⟨v', rfl, z, rfl, hz⟩ := hr
      exact ⟨z, rfl, ab_xx_s h hk hY hu hz⟩
    · cases h
  · rcases r with _ | v | v | v
    · cases h
    · cases h
    · obtain ⟨v', rfl, z, rfl⟩ := hr
      exact ⟨z, rfl⟩
    · cases h
  · rcases r with _ | v | v | v
    · cases h
    · cases h
    · cases h
    · obtain ⟨v', rfl, h1, rfl⟩ := hr
      have h : ab_tg R v (fun t n => ab_ts q (t, n)) = true := h
      obtain ⟨t, n, -, h, e2, -⟩ := ab_tg_s h hR
      exact ⟨_, rfl, ab_ts_s h e2⟩
/-! measures -/
def ab_m1 (z : Int) (s : Nat) : Nat := match s with
  | 0 => z.toNat
  | 1 => (2147483648 - z).toNat
  | _ => (z + 2147483648).toNat
def ab_mz (w : ab_wd) (A : List (ab_I × Nat)) : List Nat := A.map (fun q => ab_m1 (ab_ev w q.1) q.2)
def ab_lx : List Nat → List Nat → Prop
  | x :: xs, y :: ys => x < y ∨ (x = y ∧ ab_lx xs ys)
  | _, _ => False
theorem ab_lx_wf (P : List Nat → Prop) : ∀ (n : Nat), (∀ l, l.length = n → (∀ l', l'.length = n → ab_lx l' l → P l') → P l) → ∀ l, l.length = n → P l
  | 0, h, l, hl => h l hl (fun l' _ q => by
    cases l with
    | nil => cases l' <;> cases q
    | cons _ _ => simp at hl)
  | n + 1, h, l, hl => by
    have key : ∀ (x : Nat) (t : List Nat), t.length = n → P (x :: t) := by
      intro x
      induction x using Nat.strongRecOn with
      | _ x ihx =>
        refine ab_lx_wf (fun t => P (x :: t)) n (fun t ht iht => ?_)
        refine h (x :: t) (by simp [ht]) (fun l' hl' q => ?_)
        cases l' with
        | nil => simp at hl'
        | cons y t' =>
          have ht' : t'.length = n := by simpa using hl'
          rcases q with q | ⟨q1, q2⟩
          · exact ihx y q t' ht'
          · subst q1; exact iht t' ht' q2
    cases l with
    | nil => simp at hl
    | cons x t => exact key x t (by simpa using hl)
theorem ab_gm_s {Y : ab_Y} {u v : ab_I} {du dv : Nat} {w : ab_wd} {zu zv : Int} (h : ab_gm Y u du v dv = true) (hY : ab_RY w Y) (hu : ab_RI w u zu) (hv : ab_RI w v zv) : ab_m1 zv dv < ab_m1 zu du := by
  unfold ab_gm at h
  split at h
  · obtain ⟨h1, h2⟩ := sx_nd h
    have h1 : zv + 1 ≤ zu := ab_ge_s hY h1 hu hv
    have h2 : (0 : Int) + 0 ≤ zv := ab_ge_s (y := .inl (.ofNat 0)) hY h2 hv rfl
    show zv.toNat < zu.toNat
    omega
  · obtain ⟨h1, h2⟩ := sx_nd h
    have h1 : zu + 1 ≤ zv := ab_ge_s hY h1 hv hu
    have h2 : zu ≤ 2147483647 := ab_le_s hY h2 hu
    show (2147483648 - zv).toNat < (2147483648 - zu).toNat
    omega
  · obtain ⟨h1, h2⟩ := sx_nd h
    have h1 : zv + 1 ≤ zu := ab_ge_s hY h1 hu hv
    have h2 : (-2147483648 : Int) + 0 ≤ zv := ab_ge_s (y := .inl (.negSucc 2147483647)) hY h2 hv rfl
    show (zv + 2147483648).toNat < (zu + 2147483648).toNat
    omega
  · split at h
    · rename_i z
      have e : (z : Int) = zv := hv
      have h2 : zu ≤ 2147483647 - (z : Int) := ab_le_s hY h hu
      show zv.toNat < (2147483648 - zu).toNat
      omega
    · cases h
  · split at h
    · rename_i z
      have e : (z : Int) = zv := hv
      have h2 : ((z : Int) + -2147483647) + 0 ≤ zu := ab_ge_s (y := .inl (Int.ofNat z + Int.negSucc 2147483646)) hY h hu rfl
      show zv.toNat < (zu + 2147483648).toNat
      omega
    · cases h
  · split at h
    · rename_i z
      have e : (z : Int) = zu := hu
      obtain ⟨h1, h2⟩ := sx_nd h
      have h1 := sx_ble h1
      have h2 : (2147483649 - (z : Int)) + 0 ≤ zv := ab_ge_s (y := .inl (Int.ofNat 2147483649 - Int.ofNat z)) hY h2 hv rfl
      show (2147483648 - zv).toNat < zu.toNat
      omega
    · cases h
  · split at h
    · rename_i z
      have e : (z : Int) = zu := hu
      obtain ⟨h1, h2⟩ := sx_nd h
      have h1 := sx_ble h1
      have h2 : zv ≤ (z : Int) - 2147483649 := ab_le_s hY h2 hv
      show (zv + 2147483648).toNat < zu.toNat
      omega
    · cases h
  · cases h
theorem ab_ld_s {Y : ab_Y} {sg : ab_sg} {rf : ab_rr} {P : ab_pt} {w wA : ab_wd} (hY : ab_RY w Y) (hs : ab_so w sg) (hu : ab_up wA w) : ∀ (A B : List (ab_I × Nat)), ab_ld Y sg A B = true → (∀ q ∈ A, ∃ z, ab_RI wA q.1 z) → ab_lx (ab_mz (ab_wp P sg rf w) B) (ab_mz wA A)
  | [], _, h, _ => by cases h
  | _ :: _, [], h, _ => by cases h
  | (u, du) :: A, (v, dv) :: B, h, hA => by
    unfold ab_ld at h
    cases hv : ab_sv sg v with
    | none => rw [hv] at h; cases h
    | some v' =>
      rw [hv] at h
      dsimp only at h
      obtain ⟨zu, hzu⟩ := hA _ List.mem_cons_self
      have hzu : ab_RI wA u zu := hzu
      have hvz : ∃ zv, ab_RI w v' zv ∧ ab_ev (ab_wp P sg rf w) v = zv := by
        rcases v with z | ⟨i, a, b⟩
        · have hv : some (Sum.inl z) = some v' := hv
          cases hv
          exact ⟨z, rfl, rfl⟩
        · unfold ab_sv at hv
          dsimp only at hv
          cases hq : sx_nt sg i with
          | none => rw [hq] at hv; cases hv
          | some t =>
            rw [hq] at hv
            have hv : some (ab_cp a b t) = some v' := hv
            cases hv
            obtain ⟨zt, ht⟩ := hs i t hq
            refine ⟨_, ab_cp_s ht, ?_⟩
            show Int.ofNat a * (ab_wp P sg rf w).2.1 i + b = _
            rw [ab_wp_r hq ht]
      obtain ⟨zv, hzv, ev⟩ := hvz
      show ab_lx (ab_m1 (ab_ev (ab_wp P sg rf w) v) dv :: ab_mz (ab_wp P sg rf w) B) (ab_m1 (ab_ev wA u) du :: ab_mz wA A)
      rw [ev, hzu.ev]
      cases hg : ab_gm Y u du v' dv with
      | true => exact Or.inl (ab_gm_s hg hY (hzu.up hu) hzv)
      | false =>
        rw [hg] at h
        dsimp only [cond_false] at h
        obtain ⟨hc, h⟩ := sx_cd h
        obtain ⟨c1, c2⟩ := sx_nd hc
        refine Or.inr ⟨?_, ab_ld_s hY hs hu A B h (fun q hq => hA q (List.mem_cons_of_mem _ hq))⟩
        rw [sx_beq c1, ab_sm_s hY c2 (hzu.up hu) hzv]
end
section
/-! ===== one instruction of the abstract run is one of the small machine ===== -/
section ABS
variable (c : ab_co) (id : Nat) (G : mj_G) (M0 : mj_M) (w0 wA : ab_wd) (A : Option (List (ab_I × Nat)))
def ab_gam (b : ab_cu) (wb : ab_wd) (Lb : mj_L) (Mb : mj_M) : Prop := ab_RY wb b.2.1.1 ∧ ab_RR wb G b.2.1.2.1 ∧ ab_RM wb Mb (ab_mk b.2.1.2.2.1) ∧ ab_RL wb b.2.1.2.2.2 Lb ∧ ab_Inv G Mb ∧ ab_frm (ab_w c) G M0 Mb ∧ ab_up w0 wb
def ab_ih (Z : mj_S) : Prop := ∀ b ∈ ab_c c, ∀ wb Lb Mb cb sb, ab_gam c G M0 w0 b wb Lb Mb → (∀ A', A = some A' → ab_lx (ab_mz wb b.2.2) (ab_mz wA A')) → Z ((ab_full (ab_y c)).drop b.1) Lb [] G Mb cb sb
def ab_cz (fs : List ab_F) (y dd : Nat) (Q : mj_P) (Z : mj_S) : Prop := (∀ rest L st G M cb sb, mj_x sx_ms (mj_R mj_tab dd) (ab_full y) Q Z 1 rest L st G M cb sb → Z rest L st G M cb sb) ∧ (fs = [] → y = ab_y c ∧ ab_ih c G M0 w0 wA A Z)
def ab_RF (w : ab_wd) : List ab_F → mj_P → Prop
  | [], Q => ∀ r M, ab_Inv G M → ab_frm (ab_w c) G M0 M → (∃ po ∈ ab_o c, ab_ph w0 G po r M) → Q r G M
  | (y, d, i, rest, L, st) :: fs, Q => ∃ (L' : mj_L) (st' : List mj_V) (Q' : mj_P) (Z : mj_S) (dd cb sb : Nat), d ≤ dd ∧ ab_cz c G M0 w0 wA A fs y dd Q' Z ∧ rest = (ab_full y).drop i ∧ ab_RL w L L' ∧ ab_RS w st st' ∧ ab_RF w fs Q' ∧ ∀ r M, Z rest L' (mj_ret r st') G M cb sb → Q r G M
theorem ab_RF.up {c : ab_co} {G : mj_G} {M0 : mj_M} {w0 wA : ab_wd} {A : Option (List (ab_I × Nat))} {w w' : ab_wd} (u : ab_up w w') : ∀ {fs : List ab_F} {Q : mj_P}, ab_RF c G M0 w0 wA A w fs Q → ab_RF c G M0 w0 wA A w' fs Q
  | [], _, h => h
  | (_, _, _, _, _, _) :: _, _, h => by
    obtain ⟨L', st', Q', Z, dd, cb, sb, h1, h2, h3, h4, h5, h6, h7⟩ := h
    exact ⟨L', st', Q', Z, dd, cb, sb, h1, h2, h3, h4.up u, h5.up u, h6.up u, h7⟩
def ab_Sem (y d i : Nat) (rest : List mj_E) (L : ab_L) (st : List ab_V) (fs : List ab_F) (Y : ab_Y) (R : ab_R) (m : ab_m) (E : ab_E) : Prop := ∀ (w : ab_wd) (L' : mj_L) (st' : List mj_V) (M : mj_M) (Q : mj_P) (Z : mj_S) (dd cb sb : Nat), d ≤ dd → ab_cz c G M0 w0 wA A fs y dd Q Z → rest = (ab_full y).drop i → ab_RL w L L' → ab_RS w st st' → ab_RF c G M0 w0 wA A w fs Q → ab_RY w Y → ab_RR w G R → ab_RM w M m → ab_RE w E → ab_Inv G M → ab_frm (ab_w c) G M0 M → ab_up w0 w → ab_up wA w → Z rest L' st' G M cb sb
def ab_ks (K : ab_K) : Prop := ∀ y d i rest L st fs Y R m E, K y d i rest L st fs Y R m E = true → ab_Sem c G M0 w0 wA A y d i rest L st fs Y R m E
end ABS
theorem ab_RS.c {w : ab_wd} {x : ab_V} {v : mj_V} {t : List ab_V} {t' : List mj_V} (hS : ab_RS w t t') (hv : ab_RV w x v) : ab_RS w (x :: t) (v :: t') := ⟨v, t', rfl, hv, hS⟩
theorem ab_RI.v {w : ab_wd} {x : ab_I} {z : Int} (h : ab_RI w x z) : ab_RV w (.inl x) (.inl z) := ⟨z, rfl, h⟩
theorem ab_RV.l {w : ab_wd} {x : Int64} : ab_RV w (.inr (.inl ())) (.inr (.inl x)) := ⟨x, rfl⟩
theorem ab_i1_s {st : List ab_V} {k : ab_I → List ab_V → Bool} {w : ab_wd} {st' : List mj_V} (h : ab_i1 st k = true) (hS : ab_RS w st st') : ∃ x t z t', st' = .inl z :: t' ∧ ab_RI w x z ∧ ab_RS w t t' ∧ k x t = true := by
  unfold ab_i1 at h
  split at h
  · obtain ⟨v, t', rfl, ⟨z, rfl, hz⟩, h3⟩ := hS
    exact ⟨_, _, z, t', rfl, hz, h3, h⟩
  · cases h
theorem ab_l1_s {st : List ab_V} {k : List ab_V → Bool} {w : ab_wd} {st' : List mj_V} (h : ab_l1 st k = true) (hS : ab_RS w st st') : ∃ t z t', st' = .inr (.inl z) :: t' ∧ ab_RS w t t' ∧ k t = true := by
  unfold ab_l1 at h
  split at h
  · obtain ⟨v, t', rfl, ⟨z, rfl⟩, h3⟩ := hS
    exact ⟨_, z, t', rfl, h3, h⟩
  · cases h
theorem ab_r1_s {st : List ab_V} {k : Nat → List ab_V → Bool} {w : ab_wd} {st' : List mj_V} (h : ab_r1 st k = true) (hS : ab_RS w st st') : ∃ r t t', st' = .inr (.inr (w.2.2.2 r)) :: t' ∧ r < w.2.2.1 ∧ ab_RS w t t' ∧ k r t = true := by
  unfold ab_r1 at h
  split at h
  · obtain ⟨v, t', rfl, ⟨h1, rfl⟩, h3⟩ := hS
    exact ⟨_, _, t', rfl, h1, h3, h⟩
  · cases h
theorem ab_v1_s {st : List ab_V} {k : ab_V → List ab_V → Bool} {w : ab_wd} {st' : List mj_V} (h : ab_v1 st k = true) (hS : ab_RS w st st') : ∃ x t v t', st' = v :: t' ∧ (∀ k' : mj_V → List mj_V → Prop, k' v t' → mj_c1 (v :: t') k') ∧ ab_RV w x v ∧ ab_RS w t t' ∧ k x t = true := by
  unfold ab_v1 at h
  split at h
  · rename_i x t
    obtain ⟨v, t', rfl, ⟨z, rfl, hz⟩, h3⟩ := hS
    exact ⟨.inl x, t, _, t', rfl, fun k' q => q, ⟨z, rfl, hz⟩, h3, h⟩
  · rename_i x t
    obtain ⟨v, t', rfl, ⟨h1, rfl⟩, h3⟩ := hS
    exact ⟨.inr (.inr x), t, _, t', rfl, fun k' q => q, ⟨h1, rfl⟩, h3, h⟩
  · cases h
theorem ab_nt_RL {w : ab_wd} : ∀ {L : ab_L} {L' : mj_L} {i : Nat} {x : ab_V}, ab_RL w L L' → sx_nt L i = some x → ∃ v, mj_nt L' i = some v ∧ ab_RV w x v
  | [], _, _, _, _, h => by cases h
  | none :: _, _, 0, _, _, h => by cases h
  | some y :: _, _, 0, _, hL, h => by
    obtain ⟨v, t, rfl, h1, h2⟩ := hL
    cases h
    exact ⟨v, rfl, h1⟩
  | none :: _, _, i + 1, _, hL, h => by
    obtain ⟨v, t, rfl, h2⟩ := hL
    exact ab_nt_RL (i := i) h2 h
  | some y :: _, _, i + 1, _, hL, h => by
    obtain ⟨v, t, rfl, h1, h2⟩ := hL
    exact ab_nt_RL (i := i) h2 h
theorem ab_ldi_s {L : ab_L} {i : Nat} {k : ab_I → Bool} {w : ab_wd} {L' : mj_L} (h : ab_ldi L i k = true) (hL : ab_RL w L L') : ∃ x z, mj_nt L' i = some (.inl z) ∧ ab_RI w x z ∧ k x = true := by
  unfold ab_ldi at h
  split at h
  · rename_i x hx
    obtain ⟨v, h1, z, rfl, h2⟩ := ab_nt_RL hL hx
    exact ⟨x, z, h1, h2, h⟩
  · cases h
theorem ab_ldl_s {L : ab_L} {i : Nat} {k : Bool} {w : ab_wd} {L' : mj_L} (h : ab_ldl L i k = true) (hL : ab_RL w L L') : ∃ z, mj_nt L' i = some (.inr (.inl z)) ∧ k = true := by
  unfold ab_ldl at h
  split at h
  · rename_i x hx
    obtain ⟨v, h1, z, rfl⟩ := ab_nt_RL hL hx
    exact ⟨z, h1, h⟩
  · cases h
theorem ab_lda_s {L : ab_L} {i : Nat} {k : Nat → Bool} {w : ab_wd} {L' : mj_L} (h : ab_lda L i k = true) (hL : ab_RL w L L') : ∃ r, mj_nt L' i = some (.inr (.inr (w.2.2.2 r))) ∧ r < w.2.2.1 ∧ k r = true := by
  unfold ab_lda at h
  split at h
  · rename_i x hx
    obtain ⟨v, h1, h2, rfl⟩ := ab_nt_RL hL hx
    exact ⟨x, h1, h2, h⟩
  · cases h
theorem ab_set_RL {w : ab_wd} {x : Option ab_V} {v : Option mj_V} (hx : ∀ y, x = some y → ∃ u, v = some u ∧ ab_RV w y u) : ∀ {L : ab_L} {L' : mj_L} (i : Nat), ab_RL w L L' → ab_RL w (L.set i x) (L'.set i v)
  | [], _, i, h => by
    have e : _ = [] := h
    rw [e]; rfl
  | none :: t, _, 0, h => by
    obtain ⟨u, t', rfl, h2⟩ := h
    cases x with
    | none => exact ⟨v, t', rfl, h2⟩
    | some y =>
      obtain ⟨u', rfl, hu⟩ := hx y rfl
      exact ⟨u', t', rfl, hu, h2⟩
  | some y0 :: t, _, 0, h => by
    obtain ⟨u, t', rfl, h1, h2⟩ := h
    cases x with
    | none => exact ⟨v, t', rfl, h2⟩
    | some y =>
      obtain ⟨u', rfl, hu⟩ := hx y rfl
      exact ⟨u', t', rfl, hu, h2⟩
  | none :: t, _, i + 1, h => by
    obtain ⟨u, t', rfl, h2⟩ := h
    exact ⟨u, _, rfl, ab_set_RL hx i h2⟩
  | some y0 :: t, _, i + 1, h => by
    obtain ⟨u, t', rfl, h1, h2⟩ := h
    exact ⟨u, _, rfl, h1, ab_set_RL hx i h2⟩
/-- what is spoilt in the machine need not be known in the run -/
theorem ab_weak_RL {w : ab_wd} : ∀ {L : ab_L} {L' : mj_L} (j : Nat), ab_RL w L L' → (∀ y, sx_nt L j = some y → False) → ab_RL w L (L'.set j none)
  | [], _, j, h, _ => by
    have e : _ = [] := h
    rw [e]; rfl
  | none :: t, _, 0, h, _ => by
    obtain ⟨u, t', rfl, h2⟩ := h
    exact ⟨none, t', rfl, h2⟩
  | some y0 :: t, _, 0, h, hn => (hn y0 rfl).elim
  | none :: t, _, j + 1, h, hn => by
    obtain ⟨u, t', rfl, h2⟩ := h
    exact ⟨u, _, rfl, ab_weak_RL j h2 hn⟩
  | some y0 :: t, _, j + 1, h, hn => by
    obtain ⟨u, t', rfl, h1, h2⟩ := h
    exact ⟨u, _, rfl, h1, ab_weak_RL j h2 hn⟩
theorem ab_kll_s {w : ab_wd} {L : ab_L} {L' : mj_L} (hL : ab_RL w L L') (i : Nat) : ab_RL w (ab_kll L i) (mj_kl L' i) := by
  cases i with
  | zero => exact hL
  | succ j =>
    unfold ab_kll mj_kl
    dsimp only
    cases hq : sx_nt L j with
    | some x =>
      obtain ⟨v, h1, h2⟩ := ab_nt_RL hL hq
      rw [h1]
      rcases x with x | x | x
      · obtain ⟨z, rfl, -⟩ := h2; exact hL
      · obtain ⟨z, rfl⟩ := h2; exact ab_set_RL (fun y e => by cases e) j hL
      · obtain ⟨-, rfl⟩ := h2; exact hL
    | none =>
      dsimp only
      have hn : ∀ y, sx_nt L j = some y → False := fun y e => by rw [hq] at e; cases e
      split
      · exact ab_weak_RL j hL hn
      · exact hL
theorem ab_s1_s {w : ab_wd} {L : ab_L} {L' : mj_L} {i : Nat} {x : ab_V} {v : mj_V} (hL : ab_RL w L L') (hv : ab_RV w x v) : ab_RL w (ab_s1 L i x) (mj_s1 L' i v) := ab_set_RL (fun y e => by cases e; exact ⟨v, rfl, hv⟩) i (ab_kll_s hL i)
theorem ab_s2_s {w : ab_wd} {L : ab_L} {L' : mj_L} {i : Nat} {x : ab_V} {v : mj_V} (hL : ab_RL w L L') (hv : ab_RV w x v) : ab_RL w (ab_s2 L i x) (mj_s2 L' i v) := ab_set_RL (fun y e => by cases e) (i + 1) (ab_s1_s hL hv)
theorem ab_cat_s {w : ab_wd} : ∀ {st : List ab_V} {st' : List mj_V}, ab_RS w st st' → ab_cat st = mj_cat st'
  | [], _, h => by
    have e : _ = [] := h
    rw [e]; rfl
  | x :: t, _, h => by
    obtain ⟨v, t', rfl, h1, h2⟩ := h
    have ih := ab_cat_s h2
    rcases x with x | x | x
    · obtain ⟨z, rfl, -⟩ := h1; show 1 + ab_cat t = 1 + mj_cat t'; rw [ih]
    · obtain ⟨z, rfl⟩ := h1; show 2 + ab_cat t = 2 + mj_cat t'; rw [ih]
    · obtain ⟨-, rfl⟩ := h1; show 1 + ab_cat t = 1 + mj_cat t'; rw [ih]
theorem ab_wd_s {w : ab_wd} : ∀ {st : List ab_V} {st' : List mj_V}, ab_RS w st st' → ab_cat st = mj_wd st'
  | [], _, h => by
    have e : _ = [] := h
    rw [e]; rfl
  | x :: t, _, h => by
    obtain ⟨v, t', rfl, h1, h2⟩ := h
    have ih := ab_wd_s h2
    rcases x with x | x | x
    · obtain ⟨z, rfl, -⟩ := h1; show 1 + ab_cat t = 1 + mj_wd t'; rw [ih]
    · obtain ⟨z, rfl⟩ := h1; show 2 + ab_cat t = 2 + mj_wd t'; rw [ih]
    · obtain ⟨-, rfl⟩ := h1; show 1 + ab_cat t = 1 + mj_wd t'; rw [ih]
theorem ab_rep_s {w : ab_wd} : ∀ n : Nat, ab_RL w (List.replicate n none) (List.replicate n none)
  | 0 => rfl
  | n + 1 => ⟨none, _, rfl, ab_rep_s n⟩
theorem ab_en_s {w : ab_wd} : ∀ {st : List ab_V} {st' : List mj_V} (n : Nat), ab_RS w st st' → ab_RL w (ab_en st n) (mj_en st' n)
  | [], _, n, h => by
    have e : _ = [] := h
    rw [e]; exact ab_rep_s n
  | x :: t, _, n, h => by
    obtain ⟨v, t', rfl, h1, h2⟩ := h
    rcases x with x | x | x
    · obtain ⟨z, rfl, hz⟩ := h1; exact ⟨_, _, rfl, ⟨z, rfl, hz⟩, ab_en_s (n - 1) h2⟩
    · obtain ⟨z, rfl⟩ := h1; exact ⟨_, _, rfl, ⟨z, rfl⟩, none, _, rfl, ab_en_s (n - 2) h2⟩
    · obtain ⟨hz, rfl⟩ := h1; exact ⟨_, _, rfl, ⟨hz, rfl⟩, ab_en_s (n - 1) h2⟩
theorem ab_RS_RL {w : ab_wd} : ∀ {st : List ab_V} {st' : List mj_V}, ab_RS w st st' → ab_RL w (st.map some) (st'.map some)
  | [], _, h => by
    have e : _ = [] := h
    rw [e]; rfl
  | x :: t, _, h => by
    obtain ⟨v, t', rfl, h1, h2⟩ := h
    exact ⟨v, _, rfl, h1, ab_RS_RL h2⟩
theorem ab_pop_s {w : ab_wd} : ∀ (n : Nat) (acc st : List ab_V) (acc' st' : List mj_V) (k : List ab_V → List ab_V → Bool) (k' : List mj_V → List mj_V → Prop), ab_pop n acc st k = true → ab_RS w acc acc' → ab_RS w st st' → (∀ As t As' t', k As t = true → ab_RS w As As' → ab_RS w t t' → k' As' t') → mj_pop n acc' st' k'
  | 0, acc, st, acc', st', k, k', h, h1, h2, kk => kk _ _ _ _ h h1 h2
  | n + 1, acc, [], acc', st', k, k', h, h1, h2, kk => by cases h
  | n + 1, acc, v :: st, acc', st', k, k', h, h1, h2, kk => by
    obtain ⟨v', t', rfl, g1, g2⟩ := h2
    exact ab_pop_s n (v :: acc) st (v' :: acc') t' k k' h ⟨v', acc', rfl, g1, h1⟩ g2 kk
end
section
/-! ===== helpers of the step ===== -/
theorem ab_and_in (x : Int32) (c : Int) (h0 : 0 ≤ c) (h1 : c ≤ 2147483647) : 0 ≤ (x &&& Int32.ofInt c).toInt ∧ (x &&& Int32.ofInt c).toInt ≤ c := by
  have hb : (Int32.ofInt c).toBitVec.toNat = c.toNat := by
    rw [Int32.toBitVec_ofInt, BitVec.toNat_ofInt]
    congr 1
    exact Int.emod_eq_of_lt h0 (by omega)
  have hle : x.toBitVec.toNat &&& c.toNat ≤ c.toNat := Nat.and_le_right
  have e : (x &&& Int32.ofInt c).toInt = ((x.toBitVec.toNat &&& c.toNat : Nat) : Int) := by
    show (x &&& Int32.ofInt c).toBitVec.toInt = _
    rw [Int32.toBitVec_and, BitVec.toInt_eq_toNat_cond, BitVec.toNat_and, hb, if_pos (by omega)]
  rw [e]
  omega
theorem ab_psh_s {c : ab_co} {y i : Nat} {Y : ab_Y} {x : ab_I} {k : ab_I → ab_Y → Bool} {w : ab_wd} {z : Int} (h : ab_psh c y i Y x k = true) (hY : ab_RY w Y) (hx : ab_RI w x z) : ∃ x' Y', ab_RY w Y' ∧ ab_RI w x' z ∧ k x' Y' = true := by
  unfold ab_psh at h
  split at h
  · exact ⟨_, Y, hY, ab_nr_s hY hx, h⟩
  · rename_i l _
    cases hc : (ab_sl c).any (fun q => Nat.beq q.1 y && Nat.beq q.2 i) with
    | true =>
      rw [hc] at h
      obtain ⟨Y', h1, h2⟩ := ab_spl_s h hY hx
      exact ⟨.inl z, Y', h1, rfl, h2⟩
    | false =>
      rw [hc] at h
      exact ⟨_, Y, hY, ab_nr_s hY hx, h⟩
theorem ab_bit_s {w : ab_wd} {Y : ab_Y} {E : ab_E} {st : List ab_V} {st' : List mj_V} {an : Bool} {g : Int32 → Int32 → Int32} {k : ab_I → ab_Y → ab_E → List ab_V → Bool} {k' : List mj_V → Prop} (h : ab_bit Y E st an g k = true) (hS : ab_RS w st st') (hY : ab_RY w Y) (hE : ab_RE w E) (hg : an = true → g = fun x y => x &&& y) (kk : ∀ w' x z Y' E' t t', ab_ey w w' → ab_RY w' Y' → ab_RI w' x z → ab_RE w' E' → ab_RS w' t t' → k x Y' E' t = true → k' (.inl z :: t')) : mj_op st' g k' := by
  obtain ⟨y, t, zy, t', rfl, hy, hS, h⟩ := ab_i1_s h hS
  obtain ⟨x, t, zx, t', rfl, hx, hS, h⟩ := ab_i1_s h hS
  obtain ⟨a, b, h, l1, l2⟩ := ab_iv_s h hY hx
  obtain ⟨c, d, h, l3, l4⟩ := ab_iv_s h hY hy
  intro z hz hz2
  have any : ab_ff Y (fun v Y => k v Y E t) = true → k' (.inl z :: t') := fun h => by
    obtain ⟨w1, v, Y1, u1, u2, u3, u4⟩ := ab_ff_s h hY hz
    exact kk w1 v z Y1 E t t' u1 u2 u3 (hE.up u1.1) (hS.up u1.1) u4
  cases hcd : sx_eq c d with
  | false => rw [hcd] at h; exact any h
  | true =>
    rw [hcd] at h
    dsimp only [cond_true] at h
    have ecd := sx_eq_iff.mp hcd
    have ey : zy = c := by omega
    cases hab : sx_eq a b with
    | true =>
      rw [hab] at h
      dsimp only [cond_true] at h
      rw [sx_fi_eq] at h
      have eab := sx_eq_iff.mp hab
      have ex : zx = a := by omega
      rw [ex, ey] at hz2
      exact kk w (.inl (g (Int32.ofInt a) (Int32.ofInt c)).toInt) z Y E t t' ab_ey.rf hY hz2.symm hE hS h
    | false =>
      rw [hab] at h
      dsimp only [cond_false] at h
      cases hc : (an && (sx_le (.ofNat 0) c && sx_le c (.ofNat 2147483647))) with
      | false => rw [hc] at h; exact any h
      | true =>
        rw [hc] at h
        dsimp only [cond_true] at h
        obtain ⟨c1, hc⟩ := sx_nd hc
        obtain ⟨c2, c3⟩ := sx_nd hc
        have c2 : 0 ≤ c := sx_le_iff.mp c2
        have c3 : c ≤ 2147483647 := sx_le_iff.mp c3
        rw [hg c1] at hz2
        dsimp only at hz2
        rw [ey] at hz2
        cases hf : E.find? (fun e => ab_ie e.1 x && sx_eq e.2.1 c) with
        | some e =>
          rw [hf] at h
          dsimp only at h
          have f1 := List.find?_some hf
          have f2 := List.mem_of_find?_eq_some hf
          obtain ⟨f3, f4⟩ := sx_nd f1
          obtain ⟨z0, g1, g2⟩ := hE e f2
          have e0 : z0 = zx := ab_RI.fn (ab_ie_s f3 g1) hx
          rw [e0, sx_eq_iff.mp f4, ← hz2] at g2
          exact kk w _ z Y E t t' ab_ey.rf hY g2 hE hS h
        | none =>
          rw [hf] at h
          dsimp only at h
          obtain ⟨b1, b2⟩ := ab_and_in (Int32.ofInt zx) c c2 c3
          obtain ⟨w1, v, Y1, u1, u2, u3, u4⟩ := ab_fr_s (z := z) h hY (by rw [hz2]; exact b1) (by rw [hz2]; exact b2) (fun r hr => by cases hr)
          refine kk w1 v z Y1 _ t t' u1 u2 u3 (fun e he => ?_) (hS.up u1.1) u4
          rcases List.mem_cons.mp he with rfl | he
          · exact ⟨zx, hx.up u1.1, by rw [← hz2]; exact u3⟩
          · exact (hE.up u1.1) e he
theorem ab_bm1 {x : Int} (h1 : -2147483648 ≤ x) (h2 : x ≤ 2147483647) : x.bmod (2 ^ 32) = x := Int.bmod_eq_of_le (by simp; omega) (by simp; omega)
theorem ab_un_s {w : ab_wd} {Y : ab_Y} {st : List ab_V} {st' : List mj_V} {ng : Bool} {g : Int32 → Int32} {k : ab_I → ab_Y → List ab_V → Bool} {k' : List mj_V → Prop} (h : ab_un Y st ng g k = true) (hS : ab_RS w st st') (hY : ab_RY w Y) (hg : (ng = true → g = fun x => -x) ∧ (ng = false → g = fun x => x.toInt8.toInt32)) (kk : ∀ w' x z Y' t t', ab_ey w w' → ab_RY w' Y' → ab_RI w' x z → ab_RS w' t t' → k x Y' t = true → k' (.inl z :: t')) : mj_un st' g k' := by
  obtain ⟨x, t, zx, t', rfl, hx, hS, h⟩ := ab_i1_s h hS
  obtain ⟨a, b, h, l1, l2⟩ := ab_iv_s h hY hx
  intro z hz hz2
  have fin : ab_ok3 w (fun v Y => k v Y t) z → k' (.inl z :: t') := fun h => by
    obtain ⟨w1, v, Y1, u1, u2, u3, u4⟩ := h
    exact kk w1 v z Y1 t t' u1 u2 u3 (hS.up u1.1) u4
  cases hab : sx_eq a b with
  | true =>
    rw [hab] at h
    dsimp only [cond_true] at h
    rw [sx_fi_eq] at h
    have eab := sx_eq_iff.mp hab
    have ex : zx = a := by omega
    rw [ex] at hz2
    exact fin (ab_hc hY hz2.symm h)
  | false =>
    rw [hab] at h
    dsimp only [cond_false] at h
    cases ng with
    | true =>
      dsimp only [cond_true] at h
      cases hin : (sx_in (-b) (-a) && sx_in a b) with
      | false => rw [hin] at h; exact fin (ab_ff_s h hY hz)
      | true =>
        rw [hin] at h
        obtain ⟨i1, i2⟩ := sx_nd hin
        have m1 := sx_in_of i2 l1 l2
        have m2 : mj_in (-zx) := sx_in_of i1 (by omega) (by omega)
        rw [hg.1 rfl] at hz2
        dsimp only at hz2
        have e : z = -zx := by
          rw [hz2, Int32.toInt_neg, mj_ti m1]
          exact ab_bm1 m2.1 (by have := m2.2; omega)
        exact fin (ab_fr_s h hY (by omega) (by omega) (fun r hr => by cases hr))
    | false =>
      dsimp only [cond_false] at h
      rw [hg.2 rfl] at hz2
      dsimp only at hz2
      rw [Int8.toInt_toInt32] at hz2
      have b1 := Int8.le_toInt (Int32.ofInt zx).toInt8
      have b2 := Int8.toInt_lt (Int32.ofInt zx).toInt8
      refine fin (ab_fr_s h hY (show (-128 : Int) ≤ z from ?_) (show z ≤ (127 : Int) from ?_) (fun r hr => by cases hr))
      · rw [hz2]; omega
      · rw [hz2]; omega
theorem ab_nb {z : Int} : -128 ≤ mj_nb z ∧ mj_nb z ≤ 127 := by
  unfold mj_nb
  rw [Int8.toInt_toInt32]
  have b1 := Int8.le_toInt (Int32.ofInt z).toInt8
  have b2 := Int8.toInt_lt (Int32.ofInt z).toInt8
  omega
theorem ab_nb1 {z : Int} (h1 : -128 ≤ z) (h2 : z ≤ 127) : mj_nb z = z := by
  unfold mj_nb
  rw [Int8.toInt_toInt32, Int32.toInt_toInt8, mj_ti ⟨by omega, by omega⟩]
  exact Int.bmod_eq_of_le (by simp; omega) (by simp; omega)
theorem ab_quo {x y : Int} (hx : mj_in x) (hy : mj_in y) (h1 : 1 ≤ y) : (Int32.ofInt x / Int32.ofInt y).toInt = x.tdiv y := by
  rw [Int32.toInt_div_of_ne_right, mj_ti hx, mj_ti hy]
  intro e
  have e2 := congrArg Int32.toInt e
  rw [mj_ti hy] at e2
  have e3 : (-1 : Int32).toInt = -1 := by decide
  omega
theorem ab_td {x y : Int} (h1 : 1 ≤ y) : (0 ≤ x → 0 ≤ x.tdiv y * y ∧ x.tdiv y * y ≤ x ∧ x - x.tdiv y * y < y) ∧ (x < 0 → x.tdiv y * y ≤ 0 ∧ x ≤ x.tdiv y * y ∧ x.tdiv y * y - x < y) := by
  have pos : ∀ n : Int, 0 ≤ n → 0 ≤ n.tdiv y * y ∧ n.tdiv y * y ≤ n ∧ n - n.tdiv y * y < y := fun n hn => by
    rw [Int.tdiv_eq_ediv_of_nonneg hn]
    have e := Int.emod_def n y
    have e1 := Int.emod_nonneg n (show y ≠ 0 by omega)
    have e2 := Int.emod_lt_of_pos n (show 0 < y by omega)
    have e3 : 0 ≤ n / y := Int.ediv_nonneg hn (by omega)
    have e4 : 0 ≤ n / y * y := Int.mul_nonneg e3 (by omega)
    rw [Int.mul_comm] at e
    omega
  refine ⟨fun hx => pos x hx, fun hx => ?_⟩
  have p := pos (-x) (by omega)
  rw [Int.neg_tdiv, Int.neg_mul] at p
  omega
theorem ab_dv_s {w : ab_wd} {Y : ab_Y} {st : List ab_V} {st' : List mj_V} {rm : Bool} {g : Int32 → Int32 → Int32} {k : ab_I → ab_Y → List ab_V → Bool} {k' : List mj_V → Prop} (h : ab_dv Y st rm k = true) (hS : ab_RS w st st') (hY : ab_RY w Y) (hg : (rm = true → g = fun x y => x - x / y * y) ∧ (rm = false → g = fun x y => x / y)) (kk : ∀ w' x z Y' t t', ab_ey w w' → ab_RY w' Y' → ab_RI w' x z → ab_RS w' t t' → k x Y' t = true → k' (.inl z :: t')) : mj_dv st' g k' := by
  obtain ⟨y, t, zy, t', rfl, hy, hS, h⟩ := ab_i1_s h hS
  obtain ⟨x, t, zx, t', rfl, hx, hS, h⟩ := ab_i1_s h hS
  obtain ⟨a, b, h, l1, l2⟩ := ab_iv_s h hY hx
  obtain ⟨c, d, h, l3, l4⟩ := ab_iv_s h hY hy
  obtain ⟨hc, h⟩ := sx_cd h
  obtain ⟨c1, hc⟩ := sx_nd hc
  obtain ⟨c2, c3⟩ := sx_nd hc
  have c1 : 1 ≤ c := sx_le_iff.mp c1
  have mx := sx_in_of c2 l1 l2
  have my := sx_in_of c3 l3 l4
  refine ⟨by omega, fun z hz hz2 => ?_⟩
  have fin : ab_ok3 w (fun v Y => k v Y t) z → k' (.inl z :: t') := fun h => by
    obtain ⟨w1, v, Y1, u1, u2, u3, u4⟩ := h
    exact kk w1 v z Y1 t t' u1 u2 u3 (hS.up u1.1) u4
  have q := ab_quo mx my (by omega)
  obtain ⟨td1, td2⟩ := ab_td (x := zx) (y := zy) (by omega)
  cases rm with
  | false =>
    rw [hg.2 rfl] at hz2
    dsimp only at hz2
    rw [q] at hz2
    cases ha : sx_le (.ofNat 0) a with
    | false => rw [ha] at h; exact fin (ab_ff_s h hY hz)
    | true =>
      rw [ha] at h
      have ha : 0 ≤ a := sx_le_iff.mp ha
      have e : z = zx / zy := by rw [hz2, Int.tdiv_eq_ediv_of_nonneg (by omega)]
      refine fin (ab_fr_s h hY ?_ ?_ (fun r hr => by cases hr))
      · rw [e]
        refine Int.le_ediv_of_mul_le (by omega) ?_
        have n1 : 0 ≤ a / d := Int.ediv_nonneg ha (by omega)
        have n2 : a / d * zy ≤ a / d * d := Int.mul_le_mul_of_nonneg_left l4 n1
        have n3 : a / d * d ≤ a := Int.ediv_mul_le a (by omega)
        omega
      · rw [e]
        refine Int.le_ediv_of_mul_le (by omega) ?_
        have n1 : 0 ≤ zx / zy := Int.ediv_nonneg (by omega) (by omega)
        have n2 : zx / zy * c ≤ zx / zy * zy := Int.mul_le_mul_of_nonneg_left l3 n1
        have n3 : zx / zy * zy ≤ zx := Int.ediv_mul_le zx (by omega)
        omega
  | true =>
    rw [hg.1 rfl] at hz2
    dsimp only at hz2
    have mx1 := mx.1
    have mx2 := mx.2
    have my2 := my.2
    have e : z = zx - zx.tdiv zy * zy := by
      rw [hz2, Int32.toInt_sub, Int32.toInt_mul, q, mj_ti mx, mj_ti my]
      rcases Int.lt_or_le zx 0 with hn | hn
      · have := td2 hn
        rw [ab_bm1 (x := zx.tdiv zy * zy) (by omega) (by omega)]
        exact ab_bm1 (by omega) (by omega)
      · have := td1 hn
        rw [ab_bm1 (x := zx.tdiv zy * zy) (by omega) (by omega)]
        exact ab_bm1 (by omega) (by omega)
    cases ha : sx_le (.ofNat 0) a with
    | true =>
      rw [ha] at h
      dsimp only [cond_true] at h
      have ha : 0 ≤ a := sx_le_iff.mp ha
      have td := td1 (by omega)
      refine fin (ab_fr_s h hY (show (0 : Int) ≤ z from ?_) ?_ (fun r hr => by cases hr))
      · omega
      · rcases ab_mn_or b (d - 1) with g | g <;> rw [g] <;> omega
    | false =>
      rw [ha] at h
      dsimp only [cond_true, cond_false] at h
      refine fin (ab_fr_s h hY ?_ ?_ (fun r hr => by cases hr))
      · rcases Int.lt_or_le zx 0 with hn | hn
        · have := td2 hn; omega
        · have := td1 hn; omega
      · rcases Int.lt_or_le zx 0 with hn | hn
        · have := td2 hn; omega
        · have := td1 hn; omega
theorem ab_tf_s {Y : ab_Y} {x : ab_I} {w : ab_wd} {z : Int} (h : ab_tf Y x = true) (hY : ab_RY w Y) (hx : ab_RI w x z) : z = 0 ∨ z = 1 := by
  obtain ⟨lo, hi, h, h1, h2⟩ := ab_iv_s h hY hx
  obtain ⟨h3, h4⟩ := sx_nd h
  have h3 : 0 ≤ lo := sx_le_iff.mp h3
  have h4 : hi ≤ 1 := sx_le_iff.mp h4
  omega
theorem ab_kn_s {Y : ab_Y} {x : ab_I} {k : Int → Bool} {w : ab_wd} {z : Int} (h : ab_kn Y x k = true) (hY : ab_RY w Y) (hx : ab_RI w x z) : k z = true := by
  obtain ⟨lo, hi, h1, h2, h3⟩ := ab_iv_s h hY hx
  obtain ⟨h4, h5⟩ := sx_cd h1
  have := sx_eq_iff.mp h4
  rw [show z = lo by omega]; exact h5
theorem ab_swt_s {Y : ab_Y} {x : ab_I} {lo hi z : Int} {k : Nat → ab_Y → Bool} {k' : Nat → Prop} {w : ab_wd} (hY : ab_RY w Y) (hx : ab_RI w x z) (h1 : lo ≤ z) (h2 : z ≤ hi) (kk : ∀ t Y', ab_RY w Y' → k t Y' = true → k' t) : ∀ (ts : List Nat) (v : Int), ab_swt Y x lo hi k v ts = true → mj_sw z k' v ts
  | [], _, _ => trivial
  | t :: ts, v, h => by
    unfold ab_swt at h
    obtain ⟨g1, g2⟩ := sx_nd h
    rw [sx_fi_eq] at g2
    refine ⟨fun e => ?_, ab_swt_s hY hx h1 h2 kk ts (v + 1) g2⟩
    have hc : (sx_le lo v && sx_le v hi) = true := by rw [Bool.and_eq_true, sx_le_iff, sx_le_iff]; omega
    have g1 := sx_ct g1 hc
    obtain ⟨Y', u1, u2⟩ := ab_rf1_s (cd := .eq) g1 hY hx (show z = v from e) (Int.le_refl _) (Int.le_refl _)
    exact kk t Y' u1 u2
end
section
/-! ===== fields, arrays, the library, calls, what comes back, arrivals ===== -/
theorem ab_obj {t ci : Nat} (h : (Nat.beq t (1001 + ci) && Nat.blt ci 90) = true) : t ≠ 0 ∧ t ≠ 1 ∧ t ≠ 50 ∧ t % 1000 = ci + 1 ∧ t < 900000 := by
  obtain ⟨h1, h2⟩ := sx_nd h
  have h1 := sx_beq h1
  have h2 := sx_blt h2
  omega
theorem ab_RV.r {w : ab_wd} {u : Nat} {o : Option Nat} (hu : u < w.2.2.1) (e : w.2.2.2 u = o) : ab_RV w (.inr (.inr u)) (.inr (.inr o)) := ⟨hu, by rw [e]⟩
theorem ab_get_s {c : ab_co} {y i ci fk : Nat} {st : List ab_V} {Y : ab_Y} {R : ab_R} {m : ab_m} {k : List ab_V → ab_Y → ab_R → ab_m → Bool} {w : ab_wd} {st' : List mj_V} {G : mj_G} {M : mj_M} {k' : List mj_V → Prop} (h : ab_get c y i ci fk st Y R m k = true) (hS : ab_RS w st st') (hY : ab_RY w Y) (hR : ab_RR w G R) (hM : ab_RM w M m) (hI : ab_Inv G M) (kk : ∀ w' t t' Y' R' m', ab_up w w' → ab_RY w' Y' → ab_RR w' G R' → ab_RM w' M m' → ab_RS w' t t' → k t Y' R' m' = true → k' t') : mj_get ci fk st' G M k' := by
  obtain ⟨r, t, t', rfl, hr, hS, h⟩ := ab_r1_s h hS
  obtain ⟨tg, n, e1, h, e2, -⟩ := ab_tg_s h hR
  obtain ⟨hc, h⟩ := sx_cd h
  obtain ⟨n1, n2, n3, n4, n5⟩ := ab_obj hc
  obtain ⟨a, a1, a2⟩ := ab_rt_a e2 n1 n2 n3
  rw [a1]
  refine ⟨tg, n, a2, n4, ?_⟩
  split at h
  · rename_i e
    rw [e]
    obtain ⟨-, a', b1, w1, v, Y1, m1, u1, u2, u3, u4, u5⟩ := ab_rdi_s h hY hR hM hI (z := Int.ofNat fk) rfl (Int.natCast_nonneg fk)
    have ea : a' = a := Option.some.inj (b1.symm.trans a1)
    subst ea
    obtain ⟨x', Y2, o1, o2, o3⟩ := ab_psh_s u5 u2 u4
    exact kk w1 _ _ Y2 R m1 u1.1 o1 (hR.ey u1) u3 ((hS.up u1.1).c o2.v) o3
  · rename_i e
    rw [e]
    exact kk w _ _ Y R m ab_up.rf hY hR hM (hS.c ab_RV.l) h
  · rename_i x1 x2
    obtain ⟨-, a', b1, w1, v, R1, m1, u1, u2, u3, u4, u5, u6⟩ := ab_rdr_s h hY hR hM hI (z := Int.ofNat fk) rfl (Int.natCast_nonneg fk)
    have ea : a' = a := Option.some.inj (b1.symm.trans a1)
    subst ea
    have u5 : M.2.2 a' fk = w1.2.2.2 v := u5
    have hg : mj_rf (M.2.2 a' fk) fun v => k' (v :: t') := ⟨fun b hb => kk w1 _ _ Y R1 m1 u1.1 (hY.er u1) u2 u3 ((hS.up u1.1).c (ab_RV.r u4 (by rw [← u5, hb]))) u6, fun hb => kk w1 _ _ Y R1 m1 u1.1 (hY.er u1) u2 u3 ((hS.up u1.1).c (ab_RV.r u4 (by rw [← u5, hb]))) u6⟩
    split
    · rename_i e; exact absurd e x1
    · rename_i e; exact absurd e x2
    · exact hg
theorem ab_gw_x {fk T n a u : Nat} {G : mj_G} {k' : List mj_V → Prop} {t' : List mj_V} (eq : (T - 900050) / 1000 = u) (hG : G a = (T, n)) (ht : T % 1000 = 50) (h0 : fk = 0 → k' (.inr (.inl (mj_wc.getD u 0)) :: t')) (h1 : ∀ m, fk = m + 1 → k' (.inl (mj_ww.getD u 0) :: t')) : mj_gw fk (.inr (.inr (some a)) :: t') G k' := by
  subst eq
  refine ⟨T, n, hG, ht, ?_⟩
  cases fk with
  | zero => exact h0 rfl
  | succ m => exact h1 m rfl
theorem ab_gw_s {fk : Nat} {st : List ab_V} {Y : ab_Y} {R : ab_R} {k : List ab_V → ab_R → Bool} {w : ab_wd} {st' : List mj_V} {G : mj_G} {M : mj_M} {k' : List mj_V → Prop} (h : ab_gw fk st Y R k = true) (hS : ab_RS w st st') (hR : ab_RR w G R) (hI : ab_Inv G M) (kk : ∀ t t' R', ab_RR w G R' → ab_RS w t t' → k t R' = true → k' t') : mj_gw fk st' G k' := by
  obtain ⟨r, t, t', rfl, hr, hS, h⟩ := ab_r1_s h hS
  obtain ⟨tg, n, e1, h, e2, -⟩ := ab_tg_s h hR
  obtain ⟨hc, h⟩ := sx_cd h
  have hc : tg % 1000 = 50 := sx_beq hc
  have hw : ∃ a, w.2.2.2 r = some a ∧ (G a).1 % 1000 = 50 ∧ (tg = 50 ∨ (G a).1 = tg) := by
    rcases e2 with g | g | g | g
    · rw [show tg = 0 from g.1] at hc; simp at hc
    · rw [show tg = 1 from g.1] at hc; simp at hc
    · obtain ⟨a, g1, g2⟩ := g.2; exact ⟨a, g1, g2, Or.inl g.1⟩
    · obtain ⟨a, g1, g2⟩ := g.2.2.2; exact ⟨a, g1, by rw [g2]; exact hc, Or.inr (by rw [g2])⟩
  obtain ⟨a, a1, a2, a3⟩ := hw
  obtain ⟨q, hq, hG⟩ := hI.2.2.1 a a2
  obtain ⟨T, hT⟩ : ∃ T, T = 900050 + 1000 * q := ⟨_, rfl⟩
  have eq : (T - 900050) / 1000 = q := by omega
  have t1 : T % 1000 = 50 := by omega
  have t2 : T ≠ 0 := by omega
  have t3 : T ≠ 1 := by omega
  have t4 : T ≠ 50 := by omega
  rw [← hT] at hG
  rw [a1]
  refine ab_gw_x (eq := eq) hG t1 (fun e => ?_) (fun u e => ?_)
  · subst e
    exact kk _ _ R hR (hS.c ab_RV.l) h
  · subst e
    have vw : ab_RV w (.inl (.inl (mj_ww.getD q 0))) (.inl (mj_ww.getD q 0)) := ⟨_, rfl, rfl⟩
    cases h5 : Nat.beq tg 50 with
    | true =>
      rw [h5] at h
      have h : (List.range 24).all (fun q => sx_fi (mj_ww.getD q 0) fun z => sx_fn (900050 + 1000 * q) fun t9 => k (.inl (.inl z) :: t) (R.set r (t9, 0))) = true := h
      rw [List.all_eq_true] at h
      have h := h q (List.mem_range.mpr hq)
      rw [sx_fi_eq] at h
      generalize 900050 + 1000 * q = T2 at h hT
      subst hT
      rw [sx_fn_eq] at h
      refine kk _ _ _ (hR.set (q := (T, 0)) ?_) (hS.c vw) h
      rw [a1]
      exact Or.inr (Or.inr (Or.inr ⟨t2, t3, t4, a, rfl, hG⟩))
    | false =>
      rw [h5] at h
      have et : tg = T := by
        rcases a3 with g | g
        · rw [g] at h5; cases h5
        · rw [hG] at g; exact g.symm
      rw [et, eq] at h
      have h : (sx_fi (mj_ww.getD q 0) fun z => k (.inl (.inl z) :: t) R) = true := h
      rw [sx_fi_eq] at h
      exact kk _ _ R hR (hS.c vw) h
theorem ab_put_s {c : ab_co} {ci fk : Nat} {st : List ab_V} {Y : ab_Y} {R : ab_R} {m : ab_m} {k : List ab_V → ab_Y → ab_m → Bool} {w : ab_wd} {st' : List mj_V} {G : mj_G} {M0 M : mj_M} {k' : List mj_V → mj_M → Prop} (h : ab_put c ci fk st Y R m k = true) (hS : ab_RS w st st') (hY : ab_RY w Y) (hR : ab_RR w G R) (hM : ab_RM w M m) (hI : ab_Inv G M) (hF : ab_frm (ab_w c) G M0 M) (kk : ∀ w' t t' Y' m' M', ab_ey w w' → ab_RY w' Y' → ab_RM w' M' m' → ab_Inv G M' → ab_frm (ab_w c) G M0 M' → ab_RS w' t t' → k t Y' m' = true → k' t' M') : mj_put ci fk st' G M k' := by
  unfold ab_put at h
  unfold mj_put
  split at h
  · rename_i e
    rw [e]
    obtain ⟨x, t, z, t', rfl, hx, hS, h⟩ := ab_i1_s h hS
    obtain ⟨r, t, t', rfl, hr, hS, h⟩ := ab_r1_s h hS
    obtain ⟨tg, n, e1, h, e2, -⟩ := ab_tg_s h hR
    obtain ⟨hc, h⟩ := sx_cd h
    obtain ⟨hc, hb⟩ := sx_nd hc
    obtain ⟨n1, n2, n3, n4, n5⟩ := ab_obj hc
    obtain ⟨a, a1, a2⟩ := ab_rt_a e2 n1 n2 n3
    obtain ⟨t2, m2, a', -, b1, b2, b3, b4, b5, w1, Y1, m1, u1, u2, u3, u4⟩ := ab_wri_s h hY hR hM hI hF (z := Int.ofNat fk) rfl (Int.natCast_nonneg fk) hx
    have ea : a' = a := Option.some.inj (b1.symm.trans a1)
    subst ea
    rw [b1]
    refine ⟨tg, n, a2, n4, n5, fun q => ?_, kk w1 _ _ Y1 m1 _ u1 u2 u3 b4 b5 (hS.up u1.1) u4⟩
    rw [q] at hb
    exact ab_tf_s hb hY hx
  · rename_i e
    rw [e]
    obtain ⟨t, z, t', rfl, hS, h⟩ := ab_l1_s h hS
    obtain ⟨r, t, t', rfl, hr, hS, h⟩ := ab_r1_s h hS
    obtain ⟨tg, n, e1, h, e2, -⟩ := ab_tg_s h hR
    obtain ⟨hc, h⟩ := sx_cd h
    obtain ⟨n1, n2, n3, n4, n5⟩ := ab_obj hc
    obtain ⟨a, a1, a2⟩ := ab_rt_a e2 n1 n2 n3
    rw [a1]
    exact ⟨tg, n, a2, n4, n5, kk w _ _ Y m (mj_p1 M a fk z) ab_ey.rf hY hM (hI.p1 (by rw [a2]; intro e; have e : tg = 55103 := e; have q1 := sx_beq (sx_nd hc).1; have q2 := sx_blt (sx_nd hc).2; omega)) hF hS h⟩
  · rename_i x1 x2
    obtain ⟨u, t, t', rfl, hu, hS, h⟩ := ab_r1_s h hS
    obtain ⟨r, t, t', rfl, hr, hS, h⟩ := ab_r1_s h hS
    obtain ⟨tg, n, e1, h, e2, -⟩ := ab_tg_s h hR
    obtain ⟨hc, h⟩ := sx_cd h
    obtain ⟨n1, n2, n3, n4, n5⟩ := ab_obj hc
    obtain ⟨a, a1, a2⟩ := ab_rt_a e2 n1 n2 n3
    obtain ⟨-, t2, m2, a', -, b1, b2, b3, b4, b5, w1, Y1, m1, u1, u2, u3, u4⟩ := ab_wrr_s h hY hR hM hI hF (z := Int.ofNat fk) rfl (Int.natCast_nonneg fk)
    have ea : a' = a := Option.some.inj (b1.symm.trans a1)
    subst ea
    rw [b1]
    split
    · rename_i e; exact absurd e x1
    · rename_i e; exact absurd e x2
    · exact ⟨tg, n, a2, n4, n5, kk w1 _ _ Y1 m1 _ u1 u2 u3 b4 b5 (hS.up u1.1) u4⟩
theorem ab_ix_s {Y : ab_Y} {st : List ab_V} {R : ab_R} {k : Nat → Nat → ab_I → List ab_V → Bool} {w : ab_wd} {st' : List mj_V} {G : mj_G} (h : ab_ix Y st R k = true) (hS : ab_RS w st st') (hY : ab_RY w Y) (hR : ab_RR w G R) : ∃ r t n x z s s', st' = .inl z :: .inr (.inr (w.2.2.2 r)) :: s' ∧ ab_nR R r = some (t, n) ∧ ab_rt G (t, n) (w.2.2.2 r) ∧ ab_RI w x z ∧ 0 ≤ z ∧ z < (n : Int) ∧ ab_RS w s s' ∧ k r t x s = true := by
  obtain ⟨x, t, z, t', rfl, hx, hS, h⟩ := ab_i1_s h hS
  obtain ⟨r, t, t', rfl, hr, hS, h⟩ := ab_r1_s h hS
  obtain ⟨tg, n, e1, h, e2, -⟩ := ab_tg_s h hR
  obtain ⟨lo, hi, h, l1, l2⟩ := ab_iv_s h hY hx
  obtain ⟨hc, h⟩ := sx_cd h
  obtain ⟨c1, c2⟩ := sx_nd hc
  have c1 : 0 ≤ lo := sx_le_iff.mp c1
  rw [Bool.not_eq_true', Bool.eq_false_iff] at c2
  have c2 : hi < (n : Int) := sx_le_no c2
  exact ⟨r, tg, n, x, z, t, t', rfl, e1, e2, hx, by omega, by omega, hS, h⟩
theorem ab_ar {G : mj_G} {t n j : Nat} {o : Option Nat} (h : ab_rt G (t, n) o) (ht : t % 1000 = 100 + j) : ∃ a, o = some a ∧ G a = (t, n) := ab_rt_a h (fun e => by rw [e] at ht; simp at ht; omega) (fun e => by rw [e] at ht; simp at ht; omega) (fun e => by rw [e] at ht; simp at ht; omega)
theorem ab_cpc_s {t sp t2 dp : Nat} : ∀ (n : Nat), ab_cpc t sp t2 dp n = true → ∀ q, q < n → (ab_rg t2 (dp + q)).1 ≤ (ab_rg t (sp + q)).1 ∧ (ab_rg t (sp + q)).2 ≤ (ab_rg t2 (dp + q)).2
  | 0, _, q, hq => by omega
  | n + 1, h, q, hq => by
    unfold ab_cpc at h
    obtain ⟨h1, h2⟩ := sx_nd h
    obtain ⟨h3, h4⟩ := sx_nd h1
    by_cases e : q = n
    · subst e; exact ⟨sx_le_iff.mp h3, sx_le_iff.mp h4⟩
    · exact ab_cpc_s n h2 q (by omega)
theorem ab_lib_s {c : ab_co} {f : Nat} {st : List ab_V} {Y : ab_Y} {R : ab_R} {m : ab_m} {k : List ab_V → ab_Y → ab_m → Bool} {w : ab_wd} {st' : List mj_V} {G : mj_G} {M0 M : mj_M} {k' : List mj_V → mj_M → Prop} (h : ab_lib c f st Y R m k = true) (hS : ab_RS w st st') (hY : ab_RY w Y) (hR : ab_RR w G R) (hM : ab_RM w M m) (hI : ab_Inv G M) (hF : ab_frm (ab_w c) G M0 M) (kk : ∀ w' t t' Y' m' M', ab_ey w w' → ab_RY w' Y' → ab_RM w' M' m' → ab_Inv G M' → ab_frm (ab_w c) G M0 M' → ab_RS w' t t' → k t Y' m' = true → k' t' M') : mj_lib f st' G M k' := by
  have fin : ∀ {t : List ab_V} {t' : List mj_V} {z : Int}, ab_RS w t t' → ab_ok3 w (fun v Y => k (.inl v :: t) Y m) z → k' (.inl z :: t') M := fun {t t' z} hS h => by
    obtain ⟨w1, v, Y1, u1, u2, u3, u4⟩ := h
    exact kk w1 _ _ Y1 m M u1 u2 (hM.up u1.1) hI hF ((hS.up u1.1).c u3.v) u4
  unfold ab_lib at h
  split at h
  · obtain ⟨y, t, zy, t', rfl, hy, hS, h⟩ := ab_i1_s h hS
    obtain ⟨x, t, zx, t', rfl, hx, hS, h⟩ := ab_i1_s h hS
    obtain ⟨h8, h⟩ := sx_cd h
    refine ⟨by rw [← ab_cat_s hS]; exact sx_ble h8, fun z h1 h2 => ?_⟩
    cases g1 : ab_ge Y x y (.ofNat 0) with
    | true =>
      rw [g1] at h
      have g1 : zy + 0 ≤ zx := ab_ge_s hY g1 hx hy
      rw [h2 (by omega)]
      exact fin hS (ab_here hY hx h)
    | false =>
      rw [g1] at h
      dsimp only [cond_false] at h
      cases g2 : ab_ge Y y x (.ofNat 0) with
      | true =>
        rw [g2] at h
        have g2 : zx + 0 ≤ zy := ab_ge_s hY g2 hy hx
        have e : z = zy := by
          by_cases q : zx < zy
          · exact h1 q
          · rw [h2 q]; omega
        rw [e]
        exact fin hS (ab_here hY hy h)
      | false =>
        rw [g2] at h
        dsimp only [cond_false] at h
        obtain ⟨a, b, h, l1, l2⟩ := ab_iv_s h hY hx
        obtain ⟨p, q, h, l3, l4⟩ := ab_iv_s h hY hy
        have m1 := ab_mx_s b q
        refine fin hS (ab_fr_s h hY ?_ ?_ (fun r hr => by cases hr))
        · by_cases q : zx < zy
          · rw [h1 q]; rcases ab_mx_or a p with g | g <;> rw [g] <;> omega
          · rw [h2 q]; rcases ab_mx_or a p with g | g <;> rw [g] <;> omega
        · by_cases q : zx < zy
          · rw [h1 q]; omega
          · rw [h2 q]; omega
  · obtain ⟨y, t, zy, t', rfl, hy, hS, h⟩ := ab_i1_s h hS
    obtain ⟨x, t, zx, t', rfl, hx, hS, h⟩ := ab_i1_s h hS
    obtain ⟨h8, h⟩ := sx_cd h
    refine ⟨by rw [← ab_cat_s hS]; exact sx_ble h8, fun z h1 h2 => ?_⟩
    cases g1 : ab_ge Y y x (.ofNat 0) with
    | true =>
      rw [g1] at h
      have g1 : zx + 0 ≤ zy := ab_ge_s hY g1 hy hx
      rw [h2 (by omega)]
      exact fin hS (ab_here hY hx h)
    | false =>
      rw [g1] at h
      dsimp only [cond_false] at h
      cases g2 : ab_ge Y x y (.ofNat 0) with
      | true =>
        rw [g2] at h
        have g2 : zy + 0 ≤ zx := ab_ge_s hY g2 hx hy
        have e : z = zy := by
          by_cases q : zy < zx
          · exact h1 q
          · rw [h2 q]; omega
        rw [e]
        exact fin hS (ab_here hY hy h)
      | false =>
        rw [g2] at h
        dsimp only [cond_false] at h
        obtain ⟨a, b, h, l1, l2⟩ := ab_iv_s h hY hx
        obtain ⟨p, q, h, l3, l4⟩ := ab_iv_s h hY hy
        have m1 := ab_mn_s a p
        refine fin hS (ab_fr_s h hY ?_ ?_ (fun r hr => by cases hr))
        · by_cases q : zy < zx
          · rw [h1 q]; omega
          · rw [h2 q]; omega
        · by_cases q' : zy < zx
          · rw [h1 q']; rcases ab_mn_or b q with g | g <;> rw [g] <;> omega
          · rw [h2 q']; rcases ab_mn_or b q with g | g <;> rw [g] <;> omega
  · obtain ⟨x, t, zx, t', rfl, hx, hS, h⟩ := ab_i1_s h hS
    obtain ⟨h8, h⟩ := sx_cd h
    refine ⟨by rw [← ab_cat_s hS]; exact sx_ble h8, fun z h0 h1 h2 => ?_⟩
    obtain ⟨a, b, h, l1, l2⟩ := ab_iv_s h hY hx
    cases g1 : sx_le (.ofNat 0) a with
    | true =>
      rw [g1] at h
      have g1 : 0 ≤ a := sx_le_iff.mp g1
      rw [h1 (by omega)]
      exact fin hS (ab_here hY hx h)
    | false =>
      rw [g1] at h
      dsimp only [cond_false] at h
      cases g2 : sx_le a ab_lo with
      | true => rw [g2] at h; exact fin hS (ab_ff_s h hY h0)
      | false =>
        rw [g2] at h
        dsimp only [cond_false] at h
        have g2 : -2147483648 < a := sx_le_no (x := a) (y := ab_lo) (by rw [g2]; exact Bool.false_ne_true)
        have h00 := h0.1
        have m1 := ab_mx_s (-a) b
        by_cases hn : 0 ≤ zx
        · have e := h1 hn
          refine fin hS (ab_fr_s h hY ?_ (by omega) (fun r hr => by cases hr))
          cases g3 : sx_le (.ofNat 0) b with
          | true => show (0 : Int) ≤ z; omega
          | false =>
            have : b < 0 := sx_le_no (x := .ofNat 0) (y := b) (by rw [g3]; exact Bool.false_ne_true)
            omega
        · by_cases hm : zx = -2147483648
          · omega
          · have e := h2 (by omega) hm
            refine fin hS (ab_fr_s h hY ?_ (by omega) (fun r hr => by cases hr))
            cases g3 : sx_le (.ofNat 0) b with
            | true => show (0 : Int) ≤ z; omega
            | false => show -b ≤ z; omega
  · obtain ⟨n, t, zn, t', rfl, hn, hS, h⟩ := ab_i1_s h hS
    obtain ⟨dp, t, zd, t', rfl, hd, hS, h⟩ := ab_i1_s h hS
    obtain ⟨b, t, t', rfl, hb, hS, h⟩ := ab_r1_s h hS
    obtain ⟨sp, t, zs, t', rfl, hs, hS, h⟩ := ab_i1_s h hS
    obtain ⟨a, t, t', rfl, ha, hS, h⟩ := ab_r1_s h hS
    have h := ab_kn_s (ab_kn_s (ab_kn_s h hY hn) hY hd) hY hs
    obtain ⟨ta, na, e1, h, e2, -⟩ := ab_tg_s h hR
    obtain ⟨tb, nb, f1, h, f2, -⟩ := ab_tg_s h hR
    obtain ⟨hc, h⟩ := sx_cd h
    obtain ⟨c1, hc⟩ := sx_nd hc
    obtain ⟨c2, hc⟩ := sx_nd hc
    obtain ⟨c3, hc⟩ := sx_nd hc
    obtain ⟨c4, hc⟩ := sx_nd hc
    obtain ⟨c5, hc⟩ := sx_nd hc
    obtain ⟨c6, hc⟩ := sx_nd hc
    obtain ⟨c7, hc⟩ := sx_nd hc
    obtain ⟨c8, hc⟩ := sx_nd hc
    obtain ⟨c9, hc⟩ := sx_nd hc
    obtain ⟨c10, c11⟩ := sx_nd hc
    have c1 : ta % 1000 = 100 + 0 := sx_beq c1
    have c2 : tb % 1000 = 100 + 0 := sx_beq c2
    have c4 : 0 ≤ zs := sx_le_iff.mp c4
    have c5 : 0 ≤ zd := sx_le_iff.mp c5
    have c6 : 1 ≤ zn := sx_le_iff.mp c6
    have c7 := sx_ble c7
    have c8 := sx_ble c8
    obtain ⟨aa, a1, a2⟩ := ab_ar e2 c1
    obtain ⟨bb, b1, b2⟩ := ab_ar f2 c2
    rw [a1, b1]
    have cov : ∀ q, zd.toNat ≤ q → q < zd.toNat + zn.toNat → ab_cov (ab_w c) tb q := fun q q1 q2 => by
      have := ab_cw_s (z := (q : Int)) c11 (by omega) (by omega)
      exact this
    have hM' : ∀ x q, ¬ (x = bb ∧ zd.toNat ≤ q ∧ q < zd.toNat + zn.toNat) → (mj_cp0 M aa bb zs.toNat zd.toNat zn.toNat).1 x q = M.1 x q := fun x q hq => if_neg hq
    have hI' : ab_Inv G (mj_cp0 M aa bb zs.toNat zd.toNat zn.toNat) := by
      refine ⟨fun x q => ?_, hI.2⟩
      by_cases e : x = bb ∧ zd.toNat ≤ q ∧ q < zd.toNat + zn.toNat
      · rw [show (mj_cp0 M aa bb zs.toNat zd.toNat zn.toNat).1 x q = M.1 aa (zs.toNat + (q - zd.toNat)) from if_pos e]
        have g := ab_cpc_s _ c10 (q - zd.toNat) (by omega)
        have g2 := hI.1 aa (zs.toNat + (q - zd.toNat))
        rw [a2] at g2
        rw [e.1, b2]
        rw [show zd.toNat + (q - zd.toNat) = q by omega] at g
        exact ⟨Int.le_trans g.1 g2.1, Int.le_trans g2.2 g.2⟩
      · rw [hM' x q e]; exact hI.1 x q
    have hW : ab_frm [(tb, zd.toNat, zd.toNat + zn.toNat - 1)] G M (mj_cp0 M aa bb zs.toNat zd.toNat zn.toNat) := fun x q hq => by
      refine ⟨hM' x q (fun e => hq ⟨_, List.mem_cons_self, ?_, ?_, ?_⟩), rfl⟩
      · rw [e.1, b2]
      · exact e.2.1
      · show q ≤ zd.toNat + zn.toNat - 1; omega
    refine ⟨ta, na, a2, c1, tb, nb, b2, c2, sx_blt c3, c4, c5, by omega, by omega, by omega, by rw [← ab_cat_s hS]; exact sx_ble c9, kk w _ _ Y _ _ ab_ey.rf hY (ab_kw_s hY hR hM hW) hI' (fun x q hq => ?_) hS h⟩
    have := hF x q hq
    refine ⟨(hM' x q (fun e => hq ?_)).trans this.1, this.2⟩
    rw [e.1, b2]
    exact cov q e.2.1 e.2.2
  · obtain ⟨n, t, zn, t', rfl, hn, hS, h⟩ := ab_i1_s h hS
    obtain ⟨dp, t, zd, t', rfl, hd, hS, h⟩ := ab_i1_s h hS
    obtain ⟨b, t, t', rfl, hb, hS, h⟩ := ab_r1_s h hS
    obtain ⟨sp, t, zs, t', rfl, hs, hS, h⟩ := ab_i1_s h hS
    obtain ⟨a, t, t', rfl, ha, hS, h⟩ := ab_r1_s h hS
    have h := ab_kn_s (ab_kn_s (ab_kn_s h hY hn) hY hd) hY hs
    obtain ⟨ta, na, e1, h, e2, -⟩ := ab_tg_s h hR
    obtain ⟨tb, nb, f1, h, f2, -⟩ := ab_tg_s h hR
    obtain ⟨hc, h⟩ := sx_cd h
    obtain ⟨c1, hc⟩ := sx_nd hc
    obtain ⟨c2, hc⟩ := sx_nd hc
    obtain ⟨c3, hc⟩ := sx_nd hc
    obtain ⟨c4, hc⟩ := sx_nd hc
    obtain ⟨c5, hc⟩ := sx_nd hc
    obtain ⟨c6, hc⟩ := sx_nd hc
    obtain ⟨c7, hc⟩ := sx_nd hc
    obtain ⟨c8, c9⟩ := sx_nd hc
    have c1 : ta % 1000 = 100 + 3 := sx_beq c1
    have c2 : tb % 1000 = 100 + 3 := sx_beq c2
    have c4 : 0 ≤ zs := sx_le_iff.mp c4
    have c5 : 0 ≤ zd := sx_le_iff.mp c5
    have c6 : 0 ≤ zn := sx_le_iff.mp c6
    have c7 := sx_ble c7
    have c8 := sx_ble c8
    obtain ⟨aa, a1, a2⟩ := ab_ar e2 c1
    obtain ⟨bb, b1, b2⟩ := ab_ar f2 c2
    rw [a1, b1]
    obtain ⟨c3, c33⟩ := sx_nd c3
    have hI' : ab_Inv G (mj_cp1 M aa bb zs.toNat zd.toNat zn.toNat) := ⟨hI.1, hI.2.1, hI.2.2.1, hI.2.2.2.1, fun x k hx hk => (if_neg (fun e => by
      rw [e.1, b2] at hx
      have hx : tb = 55103 := hx
      rw [hx] at c33
      exact absurd c33 (by decide))).trans (hI.2.2.2.2 x k hx hk)⟩
    exact ⟨ta, na, a2, c1, tb, nb, b2, c2, sx_blt c3, c4, c5, c6, by omega, by omega, by rw [← ab_cat_s hS]; exact sx_ble c9, kk w _ _ Y _ (mj_cp1 M aa bb zs.toNat zd.toNat zn.toNat) ab_ey.rf hY hM hI' hF hS h⟩
  · cases h
end
section
/-! ===== calls, what comes back, arrivals ===== -/
theorem ab_ctr_s {c : ab_co} {kk : Option ab_V → ab_Y → ab_R → ab_m → Bool} {d dd f : Nat} {Y : ab_Y} {R : ab_R} {m : ab_m} {av : List ab_V} {q : ab_co} {w : ab_wd} {G : mj_G} {M0 M : mj_M} {av' : List mj_V} {Q : mj_P} (h : ab_ctr c kk d Y R m f av q = true) (hq : ab_ok q) (hd : d ≤ dd) (hY : ab_RY w Y) (hR : ab_RR w G R) (hM : ab_RM w M m) (hI : ab_Inv G M) (hF : ab_frm (ab_w c) G M0 M) (hA : ab_RS w av av') (k2 : ∀ w' r r' Y' R' m' M', ab_up w w' → ab_RY w' Y' → ab_RR w' G R' → ab_RM w' M' m' → ab_Inv G M' → ab_frm (ab_w c) G M0 M' → ab_ov w' r r' → kk r Y' R' m' = true → Q r' G M') : mj_R mj_tab dd f av' G M Q := by
  unfold ab_ctr at h
  obtain ⟨h1, h⟩ := sx_nd h
  obtain ⟨h2, h⟩ := sx_nd h
  obtain ⟨h3, h⟩ := sx_nd h
  have h1 := sx_beq h1
  have h2 := sx_blt h2
  obtain ⟨sg, rf, w1, Y1, R1, m1, u1, u2, u3, u4, u5, u6, u7, u8, p1, p2, p3, p4, p5, p6, h⟩ := ab_mt_s h hY hR hM hI (ab_RS_RL hA) (fun i x hx => by
      have : ∀ (n i : Nat), sx_nt (List.replicate n (none : Option ab_I)) i = none := by
        intro n
        induction n with
        | zero => intro i; rfl
        | succ n ih => intro i; cases i with
          | zero => rfl
          | succ i => exact ih i
      rw [this] at hx; cases hx) (fun i x hx => by
      have : ∀ (n i : Nat), sx_nt (List.replicate n (none : Option Nat)) i = none := by
        intro n
        induction n with
        | zero => intro i; rfl
        | succ n ih => intro i; cases i with
          | zero => rfl
          | succ i => exact ih i
      rw [this] at hx; cases hx)
  obtain ⟨d', rfl⟩ : ∃ d', dd = d' + 1 := ⟨dd - 1, by omega⟩
  rw [← h1]
  refine hq d' (by omega) G M _ av' Q p1 p2 p3 p4 hI (fun r M' hI' hF' ⟨po, hpo, hr, hms⟩ => ?_)
  have h := List.all_eq_true.mp h po hpo
  have hp : ∀ i x z, sx_nt sg i = some x → ab_RI w1 x z → (ab_wp (ab_p q) sg rf w1).2.1 i = z := fun i x z g1 g2 => ab_wp_r g1 g2
  have hrf : ∀ j u, sx_nt rf j = some u → u < w1.2.2.1 ∧ (ab_wp (ab_p q) sg rf w1).2.2.2 j = w1.2.2.2 u := fun j u g1 => ⟨(u8 j u g1).1, ab_wp_s g1⟩
  obtain ⟨w2, Y2, m2, o1, o2, o3, h⟩ := ab_pi_s _ _ _ _ w1 h u2 (ab_kw_s u2 u3 u4 hF') u7 hp hrf hms
  have hp2 : ∀ i x z, sx_nt sg i = some x → ab_RI w2 x z → (ab_wp (ab_p q) sg rf w1).2.1 i = z := fun i x z g1 g2 => by
    obtain ⟨z0, g3⟩ := u7 i x g1
    rw [ab_RI.fn g2 (g3.up o1.1)]
    exact hp i x z0 g1 g3
  obtain ⟨w3, rv, Y3, R3, v1, v2, v3, v4, h⟩ := ab_ri_s h o2 (u3.ey o1) (u7.up o1.1) hp2 hr
  exact k2 w3 rv r Y3 R3 m2 M' (u1.tr (o1.1.tr v1)) v2 v3 (o3.up v1) hI' (fun x k hk => by
    have g := hF' x k (fun q => hk (ab_cov_all h3 q))
    have g2 := hF x k hk
    exact ⟨g.1.trans g2.1, g.2.trans g2.2⟩) v4 h
section ABC
variable {c : ab_co} {id : Nat} {G : mj_G} {M0 : mj_M} {w0 wA : ab_wd} {A : Option (List (ab_I × Nat))}
theorem ab_call_s {K : ab_K} (hK : ab_ks c G M0 w0 wA A K) (hok : ∀ j, j < id → ab_ok (ab_tb j)) {y d i : Nat} {rest : List mj_E} {L : ab_L} {st : List ab_V} {fs : List ab_F} {Y : ab_Y} {R : ab_R} {m : ab_m} {E : ab_E} {f : Nat} {av : List ab_V} {w : ab_wd} {L' : mj_L} {st' av' : List mj_V} {M : mj_M} {Q : mj_P} {Z : mj_S} {dd cb sb : Nat} (h : ab_call c id K y d i rest L st fs Y R m E f av = true) (hd : d ≤ dd) (hz : ab_cz c G M0 w0 wA A fs y dd Q Z) (hi : rest = (ab_full y).drop i) (hL : ab_RL w L L') (hS : ab_RS w st st') (hA : ab_RS w av av') (hF : ab_RF c G M0 w0 wA A w fs Q) (hY : ab_RY w Y) (hR : ab_RR w G R) (hM : ab_RM w M m) (hE : ab_RE w E) (hI : ab_Inv G M) (hFm : ab_frm (ab_w c) G M0 M) (hu : ab_up w0 w) (huA : ab_up wA w) :
    mj_cat st' ≤ 8 ∧ (sx_ms f).1 ≤ cb ∧ (sx_ms f).2 ≤ sb ∧ mj_R mj_tab dd f av' G M fun r G M => Z rest L' (mj_ret r st') G M (cb - (sx_ms f).1) (sb - (sx_ms f).2) := by
  unfold ab_call at h
  obtain ⟨hc, h⟩ := sx_cd h
  obtain ⟨c1, hc⟩ := sx_nd hc
  obtain ⟨c2, hc⟩ := sx_nd hc
  obtain ⟨c3, c4⟩ := sx_nd hc
  have c2 : (sx_ms f).1 = 0 := sx_beq c2
  have c3 : (sx_ms f).2 = 0 := sx_beq c3
  rw [c2, c3]
  refine ⟨by rw [← ab_cat_s hS]; exact sx_ble c1, Nat.zero_le _, Nat.zero_le _, ?_⟩
  show mj_R mj_tab dd f av' G M fun r G M => Z rest L' (mj_ret r st') G M cb sb
  split at h
  · cases d with
    | zero => cases h
    | succ d =>
      dsimp only at h
      obtain ⟨d', rfl⟩ : ∃ d', dd = d' + 1 := ⟨dd - 1, by omega⟩
      refine ⟨by rw [← ab_wd_s hA]; exact sx_ble c4, ?_⟩
      intro Z' hZ'
      exact hK _ _ _ _ _ _ _ _ _ _ _ h w _ _ M _ Z' d' _ _ (by omega) ⟨hZ', fun q => by cases q⟩ rfl (ab_en_s _ hA) rfl ⟨L', st', Q, Z, d' + 1, cb, sb, hd, hz, hi, hL, hS, hF, fun r M h => h⟩ hY hR hM hE hI hFm hu huA
  · obtain ⟨j, hj, h⟩ := List.any_eq_true.mp h
    obtain ⟨h1, h⟩ := sx_nd h
    refine ab_ctr_s h (hok j (sx_blt h1)) hd hY hR hM hI hFm hA (fun w' r r' Y' R' m' M' u1 u2 u3 u4 u5 u6 u7 h => ?_)
    cases r with
    | none =>
      obtain rfl : r' = none := u7
      exact hK _ _ _ _ _ _ _ _ _ _ _ h w' L' st' M' Q Z dd cb sb hd hz hi (hL.up u1) (hS.up u1) (hF.up u1) u2 u3 u4 (hE.up u1) u5 u6 (hu.tr u1) (huA.tr u1)
    | some v =>
      obtain ⟨v', rfl, hv⟩ := u7
      exact hK _ _ _ _ _ _ _ _ _ _ _ h w' L' (v' :: st') M' Q Z dd cb sb hd hz hi (hL.up u1) ((hS.up u1).c hv) (hF.up u1) u2 u3 u4 (hE.up u1) u5 u6 (hu.tr u1) (huA.tr u1)
theorem ab_ret_s {K : ab_K} (hK : ab_ks c G M0 w0 wA A K) (h1 : w0.1 = (ab_p c).1.length) (h2 : w0.2.2.1 = (ab_p c).2.1.length) {fs : List ab_F} {Y : ab_Y} {R : ab_R} {m : ab_m} {E : ab_E} {r : Option ab_V} {r' : Option mj_V} {w : ab_wd} {M : mj_M} {Q : mj_P} (h : ab_ret c K fs Y R m E r = true) (hr : ab_ov w r r') (hF : ab_RF c G M0 w0 wA A w fs Q) (hY : ab_RY w Y) (hR : ab_RR w G R) (hM : ab_RM w M m) (hE : ab_RE w E) (hI : ab_Inv G M) (hFm : ab_frm (ab_w c) G M0 M) (hu : ab_up w0 w) (huA : ab_up wA w) : Q r' G M := by
  match fs, h, hF with
  | [], h, hF =>
    obtain ⟨po, hpo, h⟩ := List.any_eq_true.mp h
    obtain ⟨k1, h⟩ := sx_nd h
    obtain ⟨g1, g2⟩ := sx_nd h
    unfold ab_pk at k1
    obtain ⟨k1, k2⟩ := sx_nd k1
    rw [← h1, ← h2] at k2
    exact hF r' M hI hFm ⟨po, hpo, ab_pr_s g1 (by rw [h1]; exact k1) hY hR hu hr, ab_pm_s hI _ _ _ w g2 k2 hY hR hM hu⟩
  | (y, d, i, rest, L, st) :: fs, h, hF =>
    obtain ⟨L', st', Q', Z, dd, cb, sb, z0, z1, z2, z3, z4, z5, z6⟩ := hF
    cases r with
    | none =>
      obtain rfl : r' = none := hr
      exact z6 none M (hK _ _ _ _ _ _ _ _ _ _ _ h w L' st' M Q' Z dd cb sb z0 z1 z2 z3 z4 z5 hY hR hM hE hI hFm hu huA)
    | some v =>
      obtain ⟨v', rfl, hv⟩ := hr
      exact z6 (some v') M (hK _ _ _ _ _ _ _ _ _ _ _ h w L' (v' :: st') M Q' Z dd cb sb z0 z1 z2 z3 (z4.c hv) z5 hY hR hM hE hI hFm hu huA)
theorem ab_rk_s : ∀ {P R : ab_R} {n j : Nat} {q : Nat × Nat}, ab_rk P R n = true → j < n → ab_nR P j = some q → ∃ q', ab_nR R j = some q' ∧ ab_ts q q' = true
  | _, _, 0, _, _, _, h, _ => by omega
  | [], _, _ + 1, _, _, h, _, _ => by cases h
  | _ :: _, [], _ + 1, _, _, h, _, _ => by cases h
  | p :: ps, r :: rs, n + 1, 0, q, h, _, hq => by
    cases hq
    exact ⟨r, rfl, (sx_nd h).1⟩
  | p :: ps, r :: rs, n + 1, j + 1, q, h, hj, hq => ab_rk_s (P := ps) (R := rs) (n := n) (j := j) (sx_nd h).2 (by omega) hq
theorem ab_idr_s : ∀ (k n i : Nat) (t : ab_sg) (x : ab_I), (i < k → sx_nt (ab_idr n k ++ t) i = some (.inr (n + i, 1, .ofNat 0))) ∧ (k ≤ i → sx_nt (ab_idr n k ++ t) i = sx_nt t (i - k))
  | 0, n, i, t, x => ⟨fun h => by omega, fun _ => rfl⟩
  | k + 1, n, 0, t, x => ⟨fun _ => rfl, fun h => by omega⟩
  | k + 1, n, i + 1, t, x => by
    obtain ⟨h1, h2⟩ := ab_idr_s k (n + 1) i t x
    refine ⟨fun h => ?_, fun h => ?_⟩
    · rw [show n + (i + 1) = n + 1 + i by omega]
      exact h1 (by omega)
    · rw [show i + 1 - (k + 1) = i - k by omega]
      exact h2 (by omega)
theorem ab_idq_s : ∀ (k n i : Nat) (t : ab_rr), (i < k → sx_nt (ab_idq n k ++ t) i = some (n + i)) ∧ (k ≤ i → sx_nt (ab_idq n k ++ t) i = sx_nt t (i - k))
  | 0, n, i, t => ⟨fun h => by omega, fun _ => rfl⟩
  | k + 1, n, 0, t => ⟨fun _ => rfl, fun h => by omega⟩
  | k + 1, n, i + 1, t => by
    obtain ⟨h1, h2⟩ := ab_idq_s k (n + 1) i t
    refine ⟨fun h => ?_, fun h => ?_⟩
    · rw [show n + (i + 1) = n + 1 + i by omega]
      exact h1 (by omega)
    · rw [show i + 1 - (k + 1) = i - k by omega]
      exact h2 (by omega)
theorem ab_rep_n {β : Type} : ∀ (n i : Nat), sx_nt (List.replicate n (none : Option β)) i = none
  | 0, _ => rfl
  | _ + 1, 0 => rfl
  | n + 1, i + 1 => ab_rep_n n i
theorem ab_arr_s {i : Nat} {L : ab_L} {st : List ab_V} {Y : ab_Y} {R : ab_R} {m : ab_m} {w : ab_wd} {L' : mj_L} {st' : List mj_V} {M : mj_M} {Z : mj_S} {cb sb : Nat} (h : ab_arr c A i L st Y R m = true) (h1 : w0.1 = (ab_p c).1.length) (h2 : w0.2.2.1 = (ab_p c).2.1.length) (hA : ∀ A', A = some A' → ∀ q ∈ A', ∃ z, ab_RI wA q.1 z) (hz : ab_ih c G M0 w0 wA A Z) (hL : ab_RL w L L') (hS : ab_RS w st st') (hY : ab_RY w Y) (hR : ab_RR w G R) (hM : ab_RM w M m) (hI : ab_Inv G M) (hFm : ab_frm (ab_w c) G M0 M) (hu : ab_up w0 w) (huA : ab_up wA w) : Z ((ab_full (ab_y c)).drop i) L' st' G M cb sb := by
  unfold ab_arr at h
  obtain ⟨hs, h⟩ := sx_nd h
  obtain rfl : st = [] := by
    cases st with
    | nil => rfl
    | cons _ _ => cases hs
  obtain rfl : st' = [] := hS
  obtain ⟨b, hb, h⟩ := List.any_eq_true.mp h
  obtain ⟨e1, h⟩ := sx_nd h
  obtain ⟨e2, h⟩ := sx_nd h
  rw [← sx_beq e1]
  rw [← h1, ← h2] at h
  rw [← h2] at e2
  obtain ⟨sg, rf, w1, Y1, R1, m1, u1, u2, u3, u4, u5, u6, u7, u8, p1, p2, p3, p4, p5, p6, h⟩ := ab_mt_s h hY hR hM hI hL (fun j x hx => by
      rcases Nat.lt_or_ge j w0.1 with g | g
      · rw [(ab_idr_s w0.1 0 j _ x).1 g] at hx
        cases hx
        exact ⟨_, Nat.lt_of_lt_of_le (by omega) hu.1, rfl⟩
      · rw [(ab_idr_s w0.1 0 j _ x).2 g, ab_rep_n] at hx; cases hx) (fun j x hx => by
      rcases Nat.lt_or_ge j w0.2.2.1 with g | g
      · rw [(ab_idq_s w0.2.2.1 0 j _).1 g] at hx
        cases hx
        refine ⟨Nat.lt_of_lt_of_le (by omega) hu.2.2.1, fun q hq => ?_⟩
        obtain ⟨q', g1, g2⟩ := ab_rk_s e2 g hq
        rw [Nat.zero_add]
        exact ab_ts_s g2 (hR.2 j q' g1)
      · rw [(ab_idq_s w0.2.2.1 0 j _).2 g, ab_rep_n] at hx; cases hx)
  have huw : ab_up w0 (ab_wp b.2.1 sg rf w1) := by
    have f1 : ∀ j, j < w0.1 → sx_nt sg j = some (.inr (j, 1, .ofNat 0)) := fun j hj => by
      have := u5 j _ ((ab_idr_s w0.1 0 j _ (.inl 0)).1 hj)
      rw [Nat.zero_add] at this; exact this
    have f2 : ∀ j, j < w0.2.2.1 → sx_nt rf j = some j := fun j hj => by
      have := u6 j _ ((ab_idq_s w0.2.2.1 0 j _).1 hj)
      rw [Nat.zero_add] at this; exact this
    refine ⟨?_, fun j hj => ?_, ?_, fun j hj => ?_⟩
    · rcases Nat.eq_zero_or_pos w0.1 with g | g
      · rw [g]; exact Nat.zero_le _
      · have := ab_nt_lt (f1 (w0.1 - 1) (by omega))
        show w0.1 ≤ b.2.1.1.length
        omega
    · refine (ab_wp_r (z := w0.2.1 j) (f1 j hj) ⟨Nat.lt_of_lt_of_le hj (Nat.le_trans hu.1 u1.1), ?_⟩)
      rw [u1.2.1 j (Nat.lt_of_lt_of_le hj hu.1), hu.2.1 j hj]
      have : Int.ofNat 1 * w0.2.1 j = w0.2.1 j := Int.one_mul _
      show Int.ofNat 1 * w0.2.1 j + 0 = w0.2.1 j
      omega
    · rcases Nat.eq_zero_or_pos w0.2.2.1 with g | g
      · rw [g]; exact Nat.zero_le _
      · have := ab_nt_lt (f2 (w0.2.2.1 - 1) (by omega))
        show w0.2.2.1 ≤ b.2.1.2.1.length
        omega
    · rw [ab_wp_s (f2 j hj), u1.2.2.2 j (Nat.lt_of_lt_of_le hj hu.2.2.1), hu.2.2.2 j hj]
  refine hz b hb _ L' M cb sb ⟨p1, p2, p3, p4, hI, hFm, huw⟩ (fun A' e => ?_)
  subst e
  exact ab_ld_s u2 u7 (huA.tr u1) _ _ h (hA A' rfl)
end ABC
end
