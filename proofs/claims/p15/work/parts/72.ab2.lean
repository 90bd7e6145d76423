/-! ===== the abstract run, second part ===== -/
/-! cells -/
def ab_tg (R : ab_R) (r : Nat) (k : Nat → Nat → Bool) : Bool := match ab_nR R r with
  | some q => k q.1 q.2
  | none => false
def ab_lk (Y : ab_Y) (r : Nat) (x : ab_I) : ab_m → Option ab_V
  | [] => none
  | (r2, x2, v) :: t => cond (Nat.beq r2 r && ab_sm Y x2 x) (some v) (ab_lk Y r x t)
def ab_hln (t a : Nat) (b : Int) : Nat → Int → Int → Int → (Int → Int → Bool) → Bool
  | 0, _, l, h, k => k l h
  | n + 1, x, l, h, k => sx_fi (ab_mn l (ab_rg t (Int.ofNat a * x + b).toNat).1) fun l => sx_fi (ab_mx h (ab_rg t (Int.ofNat a * x + b).toNat).2) fun h => sx_fi (x + 1) fun x => ab_hln t a b n x l h k
/-- the bounds of what may stand at x in a cell of tag t -/
def ab_hl (Y : ab_Y) (t : Nat) (x : ab_I) (k : Int → Int → Bool) : Bool := match x with
  | .inl z => k (ab_rg t z.toNat).1 (ab_rg t z.toNat).2
  | .inr (i, a, b) => cond (ab_per t) (match ab_ny Y i with
    | none => false
    | some q => cond (sx_le (q.2.1 - q.1) (.ofNat 1100)) (ab_hln t a b (q.2.1 + 1 - q.1).toNat q.1 (ab_rg t (Int.ofNat a * q.1 + b).toNat).1 (ab_rg t (Int.ofNat a * q.1 + b).toNat).2 k) false) (cond (Nat.ble 100 (Nat.mod t 1000)) (k (ab_rga t).1 (ab_rga t).2) false)
def ab_rdi (Y : ab_Y) (R : ab_R) (m : ab_m) (r : Nat) (x : ab_I) (k : ab_I → ab_Y → ab_m → Bool) : Bool := match ab_lk Y r x m with
  | some (.inl v) => k v Y m
  | some (.inr _) => false
  | none => ab_tg R r fun t _ => cond (Nat.beq t 0 || (Nat.beq t 1 || Nat.beq (Nat.mod t 1000) 50)) false (ab_hl Y t x fun lo hi => ab_fr Y lo hi [] fun v Y => k v Y ((r, x, .inl v) :: m))
def ab_rdr (Y : ab_Y) (R : ab_R) (m : ab_m) (r : Nat) (x : ab_I) (k : Nat → ab_R → ab_m → Bool) : Bool := match ab_lk Y r x m with
  | some (.inr (.inr u)) => k u R m
  | some _ => false
  | none => ab_tg R r fun t n => cond (Nat.beq t 0 || (Nat.beq t 1 || Nat.beq (Nat.mod t 1000) 50)) false (ab_iv Y x fun lo hi => cond (cond (Nat.ble 100 (Nat.mod t 1000)) (sx_le (.ofNat 0) lo && (!sx_le (.ofNat n) hi)) (sx_eq lo hi)) (match ab_rf t lo.toNat with
    | some q => k R.length (R ++ [q]) ((r, x, .inr (.inr R.length)) :: m)
    | none => false) false)
/-- surely not the same place -/
def ab_dj (Y : ab_Y) (x y : ab_I) : Bool := ab_ge Y x y (.ofNat 1) || (ab_ge Y y x (.ofNat 1) || (match x, y with
  | .inr (i, a, b), .inr (j, c, d) => Nat.beq i j && (Nat.beq a c && !sx_eq b d)
  | .inr (_, a, b), .inl z => !sx_eq ((z - b) % Int.ofNat a) (.ofNat 0)
  | .inl z, .inr (_, a, b) => !sx_eq ((z - b) % Int.ofNat a) (.ofNat 0)
  | _, _ => false))
def ab_wk (t : Nat) : Bool := Nat.beq t ab_rdt
/-- what is still known behind a write of v (none: a reference) at x of r, a cell of tag t -/
def ab_kl (R : ab_R) (t r : Nat) (x : ab_I) (v : Option ab_I) : ab_m → ab_Y → (ab_m → ab_Y → Bool) → Bool
  | [], Y, k => k [] Y
  | (r2, x2, v2) :: rest, Y, k => ab_tg R r2 fun t2 _ => cond (!Nat.beq t2 t || ab_dj Y x2 x) (ab_kl R t r x v rest Y fun m Y => k ((r2, x2, v2) :: m) Y) (cond (ab_wk t && (Nat.beq r2 r && !ab_sm Y x2 x)) (match v, v2 with
    | some v, .inl u => ab_iv Y v fun a b => ab_iv Y u fun c d => ab_fr Y (ab_mn a c) (ab_mx b d) [] fun q Y => ab_kl R t r x (some v) rest Y fun m Y => k ((r2, x2, .inl q) :: m) Y
    | v, _ => ab_kl R t r x v rest Y k) (ab_kl R t r x v rest Y k))
def ab_fa (t a : Nat) (b lo hi : Int) : Nat → Int → Bool
  | 0, _ => true
  | n + 1, x => (sx_le (ab_rg t (Int.ofNat a * x + b).toNat).1 lo && sx_le hi (ab_rg t (Int.ofNat a * x + b).toNat).2) && sx_fi (x + 1) fun x => ab_fa t a b lo hi n x
def ab_fc (t a : Nat) (b : Int) (t2 a2 : Nat) (b2 : Int) : Nat → Int → Bool
  | 0, _ => true
  | n + 1, x => (sx_le (ab_rg t (Int.ofNat a * x + b).toNat).1 (ab_rg t2 (Int.ofNat a2 * x + b2).toNat).1 && sx_le (ab_rg t2 (Int.ofNat a2 * x + b2).toNat).2 (ab_rg t (Int.ofNat a * x + b).toNat).2) && sx_fi (x + 1) fun x => ab_fc t a b t2 a2 b2 n x
/-- may v stand at x of a cell of tag t -/
def ab_ft (Y : ab_Y) (R : ab_R) (m : ab_m) (t : Nat) (x v : ab_I) : Bool := match x with
  | .inl z => ab_ge Y v (.inl (ab_rg t z.toNat).1) (.ofNat 0) && ab_le Y v (ab_rg t z.toNat).2
  | .inr (i, a, b) => cond (ab_per t) (match ab_ny Y i with
    | none => false
    | some q => cond (sx_le (q.2.1 - q.1) (.ofNat 1100)) (ab_iv Y v fun lo hi => ab_fa t a b lo hi (q.2.1 + 1 - q.1).toNat q.1 || m.any (fun e => match e with
      | (r2, .inr (i2, a2, b2), .inl v2) => Nat.beq i2 i && (ab_ie v2 v && ab_tg R r2 fun t2 _ => Nat.blt 1 t2 && (!Nat.beq t2 50 && ab_fc t a b t2 a2 b2 (q.2.1 + 1 - q.1).toNat q.1))
      | _ => false)) false) (cond (Nat.ble 100 (Nat.mod t 1000)) (ab_ge Y v (.inl (ab_rga t).1) (.ofNat 0) && ab_le Y v (ab_rga t).2) false)
def ab_cw (W : List (Nat × Nat × Nat)) (t : Nat) (lo hi : Int) : Bool := W.any (fun q => Nat.beq q.1 t && (sx_le (.ofNat q.2.1) lo && sx_le hi (.ofNat q.2.2)))
def ab_wri (W : List (Nat × Nat × Nat)) (Y : ab_Y) (R : ab_R) (m : ab_m) (r : Nat) (x v : ab_I) (k : ab_Y → ab_m → Bool) : Bool := ab_tg R r fun t _ => ab_iv Y x fun lo hi => cond (Nat.blt t 900000 && (Nat.blt 1 t && (!Nat.beq t 50 && (ab_cw W t lo hi && ab_ft Y R m t x v)))) (ab_kl R t r x (some v) m Y fun m Y => k Y ((r, x, .inl v) :: m)) false
def ab_ts (p q : Nat × Nat) : Bool := (Nat.beq p.1 q.1 && Nat.beq p.2 q.2) || ((Nat.beq p.1 0 && (Nat.beq q.1 0 || (Nat.beq q.1 1 || Nat.beq (Nat.mod q.1 1000) 50))) || (Nat.beq p.1 50 && Nat.beq (Nat.mod q.1 1000) 50))
def ab_wrr (W : List (Nat × Nat × Nat)) (Y : ab_Y) (R : ab_R) (m : ab_m) (r : Nat) (x : ab_I) (u : Nat) (k : ab_Y → ab_m → Bool) : Bool := ab_tg R r fun t _ => ab_tg R u fun tu nu => ab_iv Y x fun lo hi => cond (Nat.blt t 900000 && (Nat.blt 1 t && (!Nat.beq t 50 && (ab_cw W t lo hi && cond (Nat.ble 100 (Nat.mod t 1000)) true (sx_eq lo hi))))) (match ab_rf t lo.toNat with
  | none => false
  | some q => cond (ab_ts q (tu, nu)) (ab_kl R t r x none m Y fun m Y => k Y ((r, x, .inr (.inr u)) :: m)) false) false
/-! patterns -/
abbrev ab_sg : Type := List (Option ab_I)
abbrev ab_rr : Type := List (Option Nat)
def ab_cp (a : Nat) (b : Int) (t : ab_I) : ab_I := match t with
  | .inl z => .inl (Int.ofNat a * z + b)
  | .inr (i, f, q) => .inr (i, a * f, Int.ofNat a * q + b)
def ab_mv (Rp : ab_R) (Y : ab_Y) (R : ab_R) (p u : ab_V) (sg : ab_sg) (rf : ab_rr) (k : ab_sg → ab_rr → Bool) : Bool := match p, u with
  | .inl (.inl z), .inl x => ab_iv Y x fun lo hi => cond (sx_eq lo z && sx_eq hi z) (k sg rf) false
  | .inl (.inr (i, a, b)), .inl x => match sx_nt sg i with
    | some t => cond (ab_sm Y (ab_cp a b t) x) (k sg rf) false
    | none => cond (Nat.beq a 1 && (sx_eq b (.ofNat 0) && Nat.blt i sg.length)) (k (sg.set i (some x)) rf) false
  | .inr (.inl _), .inr (.inl _) => k sg rf
  | .inr (.inr j), .inr (.inr u) => match sx_nt rf j with
    | some u' => cond (Nat.beq u u') (k sg rf) false
    | none => match ab_nR Rp j, ab_nR R u with
      | some p, some q => cond (ab_ts p q && Nat.blt j rf.length) (k sg (rf.set j (some u))) false
      | _, _ => false
  | _, _ => false
def ab_mvs (Rp : ab_R) (Y : ab_Y) (R : ab_R) : ab_L → ab_L → ab_sg → ab_rr → (ab_sg → ab_rr → Bool) → Bool
  | [], [], sg, rf, k => k sg rf
  | none :: ps, _ :: us, sg, rf, k => ab_mvs Rp Y R ps us sg rf k
  | some p :: ps, some u :: us, sg, rf, k => ab_mv Rp Y R p u sg rf fun sg rf => ab_mvs Rp Y R ps us sg rf k
  | _, _, _, _, _ => false
def ab_mms (Rp : ab_R) : List (Nat × Nat × ab_V) → ab_Y → ab_R → ab_m → ab_sg → ab_rr → (ab_sg → ab_rr → ab_Y → ab_R → ab_m → Bool) → Bool
  | [], Y, R, m, sg, rf, k => k sg rf Y R m
  | (r, x, .inl p) :: t, Y, R, m, sg, rf, k => match sx_nt rf r with
    | none => false
    | some r' => ab_rdi Y R m r' (.inl (.ofNat x)) fun v Y m => ab_mv Rp Y R (.inl p) (.inl v) sg rf fun sg rf => ab_mms Rp t Y R m sg rf k
  | (r, x, .inr (.inr j)) :: t, Y, R, m, sg, rf, k => match sx_nt rf r with
    | none => false
    | some r' => ab_rdr Y R m r' (.inl (.ofNat x)) fun u R m => ab_mv Rp Y R (.inr (.inr j)) (.inr (.inr u)) sg rf fun sg rf => ab_mms Rp t Y R m sg rf k
  | (_, _, .inr (.inl _)) :: _, _, _, _, _, _, _ => false
def ab_mb (Y : ab_Y) (sg : ab_sg) : ab_Y → ab_sg → Bool
  | [], [] => true
  | (lo, hi, rel) :: t, some x :: g => ab_ge Y x (.inl lo) (.ofNat 0) && (ab_le Y x hi && (rel.all (fun r => match sx_nt sg r.1 with
    | some y => ab_ge Y x y r.2
    | none => false) && ab_mb Y sg t g))
  | _, _ => false
def ab_mt (P : ab_pt) (us : ab_L) (sg : ab_sg) (rf : ab_rr) (Y : ab_Y) (R : ab_R) (m : ab_m) (k : ab_sg → ab_rr → ab_Y → ab_R → ab_m → Bool) : Bool :=
  ab_mvs P.2.1 Y R P.2.2.2 us sg rf fun sg rf => ab_mms P.2.1 P.2.2.1 Y R m sg rf fun sg rf Y R m => cond (ab_mb Y sg P.1 sg && (rf.all Option.isSome && Nat.beq rf.length P.2.1.length)) (k sg rf Y R m) false
/-! what comes back -/
def ab_xx (Y : ab_Y) (x : ab_I) (X : ab_X) : Bool := match X with
  | .inl z => ab_sm Y x (.inl z)
  | .inr (.inl (j, b)) => ab_sm Y x (.inr (j, 1, b))
  | .inr (.inr (lo, hi, rel)) => ab_ge Y x (.inl lo) (.ofNat 0) && (ab_le Y x hi && (match rel with
    | none => true
    | some (j, d) => ab_ge Y x (.inr (j, 1, .ofNat 0)) d))
def ab_pm (R : ab_R) : List (Nat × Nat × ab_X) → ab_Y → ab_m → Bool
  | [], _, _ => true
  | (r, x, X) :: t, Y, m => ab_rdi Y R m r (.inl (.ofNat x)) fun v Y m => ab_xx Y v X && ab_pm R t Y m
def ab_pr (Y : ab_Y) (R : ab_R) (p : Option (ab_X ⊕ (Unit ⊕ (Nat × Nat)))) (r : Option ab_V) : Bool := match p, r with
  | none, none => true
  | some (.inl X), some (.inl x) => ab_xx Y x X
  | some (.inr (.inl _)), some (.inr (.inl _)) => true
  | some (.inr (.inr q)), some (.inr (.inr u)) => ab_tg R u fun t n => ab_ts q (t, n)
  | _, _ => false
/-- a number told, in the signs of the caller -/
def ab_xi (sg : ab_sg) (Y : ab_Y) (X : ab_X) (k : ab_I → ab_Y → Bool) : Bool := match X with
  | .inl z => k (.inl z) Y
  | .inr (.inl (j, b)) => match sx_nt sg j with
    | none => false
    | some (.inl z) => sx_fi (z + b) fun z => k (.inl z) Y
    | some (.inr (i, a, q)) => ab_c1 i a (q + b) fun v => k v Y
  | .inr (.inr (lo, hi, none)) => ab_fr Y lo hi [] k
  | .inr (.inr (lo, hi, some (j, d))) => match sx_nt sg j with
    | none => false
    | some (.inl z) => ab_fr Y (ab_mx lo (z + d)) hi [] k
    | some (.inr (i, 1, q)) => sx_fi (q + d) fun d => ab_fr Y lo hi [(i, d)] k
    | some (.inr _) => ab_fr Y lo hi [] k
def ab_pi (sg : ab_sg) (rf : ab_rr) : List (Nat × Nat × ab_X) → ab_Y → ab_m → (ab_Y → ab_m → Bool) → Bool
  | [], Y, m, k => k Y m
  | (r, x, X) :: t, Y, m, k => match sx_nt rf r with
    | none => false
    | some r' => ab_xi sg Y X fun v Y => ab_pi sg rf t Y ((r', .inl (.ofNat x), .inl v) :: m) k
def ab_ri (sg : ab_sg) (Y : ab_Y) (R : ab_R) (p : Option (ab_X ⊕ (Unit ⊕ (Nat × Nat)))) (k : Option ab_V → ab_Y → ab_R → Bool) : Bool := match p with
  | none => k none Y R
  | some (.inl X) => ab_xi sg Y X fun v Y => k (some (.inl v)) Y R
  | some (.inr (.inl _)) => k (some (.inr (.inl ()))) Y R
  | some (.inr (.inr q)) => k (some (.inr (.inr R.length))) Y (R ++ [q])
def ab_kw (W : List (Nat × Nat × Nat)) (Y : ab_Y) (R : ab_R) (m : ab_m) : ab_m := m.filter (fun e => ab_tg R e.1 fun t _ => Nat.blt 1 t && (!Nat.beq t 50 && ab_iv Y e.2.1 fun lo hi => !(W.any (fun q => Nat.beq q.1 t && (sx_le lo (.ofNat q.2.2) && sx_le (.ofNat q.2.1) hi)))))
/-! measures -/
def ab_sv (sg : ab_sg) (x : ab_I) : Option ab_I := match x with
  | .inl z => some (.inl z)
  | .inr (i, a, b) => match sx_nt sg i with
    | none => none
    | some t => some (ab_cp a b t)
def ab_gm (Y : ab_Y) (u : ab_I) (du : Nat) (v : ab_I) (dv : Nat) : Bool := match du, dv with
  | 0, 0 => ab_ge Y u v (.ofNat 1) && ab_ge Y v (.inl (.ofNat 0)) (.ofNat 0)
  | 1, 1 => ab_ge Y v u (.ofNat 1) && ab_le Y u (.ofNat 2147483647)
  | 2, 2 => ab_ge Y u v (.ofNat 1) && ab_ge Y v (.inl (.negSucc 2147483647)) (.ofNat 0)
  | 1, 0 => match v with
    | .inl (.ofNat z) => ab_le Y u (Int.ofNat 2147483647 - Int.ofNat z)
    | _ => false
  | 2, 0 => match v with
    | .inl (.ofNat z) => ab_ge Y u (.inl (Int.ofNat z + Int.negSucc 2147483646)) (.ofNat 0)
    | _ => false
  | 0, 1 => match u with
    | .inl (.ofNat z) => Nat.ble 1 z && ab_ge Y v (.inl (Int.ofNat 2147483649 - Int.ofNat z)) (.ofNat 0)
    | _ => false
  | 0, 2 => match u with
    | .inl (.ofNat z) => Nat.ble 1 z && ab_le Y v (Int.ofNat z - Int.ofNat 2147483649)
    | _ => false
  | _, _ => false
def ab_ld (Y : ab_Y) (sg : ab_sg) : List (ab_I × Nat) → List (ab_I × Nat) → Bool
  | (u, du) :: A, (v, dv) :: B => match ab_sv sg v with
    | none => false
    | some v => cond (ab_gm Y u du v dv) true (cond (Nat.beq du dv && ab_sm Y u v) (ab_ld Y sg A B) false)
  | _, _ => false
/-! calls -/
def ab_cat : List ab_V → Nat
  | [] => 0
  | .inr (.inl _) :: t => 2 + ab_cat t
  | _ :: t => 1 + ab_cat t
def ab_en : List ab_V → Nat → ab_L
  | [], n => List.replicate n none
  | .inr (.inl w) :: t, n => some (.inr (.inl w)) :: none :: ab_en t (n - 2)
  | .inl z :: t, n => some (.inl z) :: ab_en t (n - 1)
  | .inr (.inr r) :: t, n => some (.inr (.inr r)) :: ab_en t (n - 1)
def ab_idr (n : Nat) : Nat → ab_sg
  | 0 => []
  | k + 1 => some (.inr (n, 1, .ofNat 0)) :: ab_idr (n + 1) k
def ab_idq (n : Nat) : Nat → ab_rr
  | 0 => []
  | k + 1 => some n :: ab_idq (n + 1) k
def ab_rk : ab_R → ab_R → Nat → Bool
  | _, _, 0 => true
  | p :: ps, q :: qs, n + 1 => ab_ts p q && ab_rk ps qs n
  | _, _, _ => false
def ab_xk (k : Nat) (X : ab_X) : Bool := match X with
  | .inl _ => true
  | .inr (.inl (j, _)) => Nat.blt j k
  | .inr (.inr (_, _, none)) => true
  | .inr (.inr (_, _, some (j, _))) => Nat.blt j k
def ab_k0 (k : Nat) (p : Option (ab_X ⊕ (Unit ⊕ (Nat × Nat)))) : Bool := match p with
  | some (.inl X) => ab_xk k X
  | _ => true
def ab_pk (c : ab_co) (p : ab_po) : Bool := ab_k0 (ab_p c).1.length p.1 && p.2.all (fun e => Nat.blt e.1 (ab_p c).2.1.length && ab_xk (ab_p c).1.length e.2.2)
/-- an arrival at a cut -/
def ab_arr (c : ab_co) (A : Option (List (ab_I × Nat))) (i : Nat) (L : ab_L) (st : List ab_V) (Y : ab_Y) (R : ab_R) (m : ab_m) : Bool := st.isEmpty && (ab_c c).any (fun b => Nat.beq b.1 i && (ab_rk b.2.1.2.1 R (ab_p c).2.1.length && ab_mt b.2.1 L (ab_idr 0 (ab_p c).1.length ++ List.replicate (b.2.1.1.length - (ab_p c).1.length) none) (ab_idq 0 (ab_p c).2.1.length ++ List.replicate (b.2.1.2.1.length - (ab_p c).2.1.length) none) Y R m fun sg _ Y _ _ => match A with
  | none => true
  | some A => ab_ld Y sg A b.2.2))
def ab_ret (c : ab_co) (K : ab_K) (fs : List ab_F) (Y : ab_Y) (R : ab_R) (m : ab_m) (E : ab_E) (r : Option ab_V) : Bool := match fs with
  | [] => (ab_o c).any (fun p => ab_pk c p && (ab_pr Y R p.1 r && ab_pm R p.2 Y m))
  | (y, d, i, rest, L, st) :: fs => match r with
    | none => K y d i rest L st fs Y R m E
    | some v => K y d i rest L (v :: st) fs Y R m E
def ab_ctr (c : ab_co) (kk : Option ab_V → ab_Y → ab_R → ab_m → Bool) (d : Nat) (Y : ab_Y) (R : ab_R) (m : ab_m) (f : Nat) (av : List ab_V) (q : ab_co) : Bool := Nat.beq (ab_y q) f && (Nat.blt (ab_h q) d && ((ab_w q).all (fun e => ab_cw (ab_w c) e.1 (.ofNat e.2.1) (.ofNat e.2.2)) && ab_mt (ab_p q) (av.map some) (List.replicate (ab_p q).1.length none) (List.replicate (ab_p q).2.1.length none) Y R m fun sg rf Y R m => (ab_o q).all (fun p => ab_pi sg rf p.2 Y (ab_kw (ab_w q) Y R m) fun Y m => ab_ri sg Y R p.1 fun r Y R => kk r Y R m)))
/-- a call: by the contracts of the method, or its code -/
def ab_call (c : ab_co) (id : Nat) (K : ab_K) (y d i : Nat) (rest : List mj_E) (L : ab_L) (st : List ab_V) (fs : List ab_F) (Y : ab_Y) (R : ab_R) (m : ab_m) (E : ab_E) (f : Nat) (av : List ab_V) : Bool := cond (Nat.ble (ab_cat st) 8 && (Nat.beq (mj_tab f).2.2.2.2.2.2.1 0 && (Nat.beq (mj_tab f).2.2.2.2.2.2.2 0 && Nat.ble (ab_cat av) (mj_tab f).2.2.1))) (match ab_by f with
  | [] => match d with
    | 0 => false
    | d + 1 => K f d 0 (ab_full f) (ab_en av (mj_tab f).2.2.1) [] ((y, d + 1, i, rest, L, st) :: fs) Y R m E
  | ids => ids.any (fun j => Nat.blt j id && ab_ctr c (fun r Y R m => match r with
    | none => K y d i rest L st fs Y R m E
    | some v => K y d i rest L (v :: st) fs Y R m E) d Y R m f av (ab_tb j))) false
def ab_swt (Y : ab_Y) (x : ab_I) (lo hi : Int) (k : Nat → ab_Y → Bool) : Int → List Nat → Bool
  | _, [] => true
  | v, t :: ts => cond (sx_le lo v && sx_le v hi) (ab_rf1 .eq Y x v v fun Y => k t Y) true && sx_fi (v + 1) fun v => ab_swt Y x lo hi k v ts
def ab_ldi (L : ab_L) (i : Nat) (k : ab_I → Bool) : Bool := match sx_nt L i with
  | some (.inl z) => k z
  | _ => false
def ab_ldl (L : ab_L) (i : Nat) (k : Bool) : Bool := match sx_nt L i with
  | some (.inr (.inl _)) => k
  | _ => false
def ab_lda (L : ab_L) (i : Nat) (k : Nat → Bool) : Bool := match sx_nt L i with
  | some (.inr (.inr z)) => k z
  | _ => false
def ab_kll (L : ab_L) (i : Nat) : ab_L := match i with
  | 0 => L
  | j + 1 => match sx_nt L j with
    | some (.inr (.inl _)) => L.set j none
    | _ => L
def ab_s1 (L : ab_L) (i : Nat) (v : ab_V) : ab_L := (ab_kll L i).set i (some v)
def ab_s2 (L : ab_L) (i : Nat) (v : ab_V) : ab_L := ((ab_kll L i).set i (some v)).set (i + 1) none
def ab_i1 (st : List ab_V) (k : ab_I → List ab_V → Bool) : Bool := match st with
  | .inl x :: t => k x t
  | _ => false
def ab_l1 (st : List ab_V) (k : List ab_V → Bool) : Bool := match st with
  | .inr (.inl _) :: t => k t
  | _ => false
def ab_r1 (st : List ab_V) (k : Nat → List ab_V → Bool) : Bool := match st with
  | .inr (.inr x) :: t => k x t
  | _ => false
def ab_v1 (st : List ab_V) (k : ab_V → List ab_V → Bool) : Bool := match st with
  | .inl x :: t => k (.inl x) t
  | .inr (.inr x) :: t => k (.inr (.inr x)) t
  | _ => false
def ab_pop : Nat → List ab_V → List ab_V → (List ab_V → List ab_V → Bool) → Bool
  | 0, acc, st, k => k acc st
  | _ + 1, _, [], _ => false
  | n + 1, acc, v :: st, k => ab_pop n (v :: acc) st k
/-- an int of an array's place or a field, split where the contract says so -/
def ab_psh (c : ab_co) (y i : Nat) (Y : ab_Y) (x : ab_I) (k : ab_I → ab_Y → Bool) : Bool := match ab_sl c with
  | [] => k (ab_nr Y x) Y
  | l => cond (l.any (fun q => Nat.beq q.1 y && Nat.beq q.2 i)) (ab_spl Y x fun z Y => k (.inl z) Y) (k (ab_nr Y x) Y)
def ab_bit (Y : ab_Y) (E : ab_E) (st : List ab_V) (an : Bool) (g : Int32 → Int32 → Int32) (k : ab_I → ab_Y → ab_E → List ab_V → Bool) : Bool := ab_i1 st fun y st => ab_i1 st fun x st => ab_iv Y x fun a b => ab_iv Y y fun c d => cond (sx_eq c d) (cond (sx_eq a b) (sx_fi (g (Int32.ofInt a) (Int32.ofInt c)).toInt fun z => k (.inl z) Y E st) (cond (an && (sx_le (.ofNat 0) c && sx_le c (.ofNat 2147483647))) (match E.find? (fun e => ab_ie e.1 x && sx_eq e.2.1 c) with
  | some e => k e.2.2 Y E st
  | none => ab_fr Y (.ofNat 0) c [] fun v Y => k v Y ((x, c, v) :: E) st) (ab_ff Y fun v Y => k v Y E st))) (ab_ff Y fun v Y => k v Y E st)
def ab_un (Y : ab_Y) (st : List ab_V) (ng : Bool) (g : Int32 → Int32) (k : ab_I → ab_Y → List ab_V → Bool) : Bool := ab_i1 st fun x st => ab_iv Y x fun a b => cond (sx_eq a b) (sx_fi (g (Int32.ofInt a)).toInt fun z => k (.inl z) Y st) (cond ng (cond (sx_in (-b) (-a) && sx_in a b) (ab_fr Y (-b) (-a) [] fun v Y => k v Y st) (ab_ff Y fun v Y => k v Y st)) (ab_fr Y (.negSucc 127) (.ofNat 127) [] fun v Y => k v Y st))
def ab_dv (Y : ab_Y) (st : List ab_V) (rm : Bool) (k : ab_I → ab_Y → List ab_V → Bool) : Bool := ab_i1 st fun y st => ab_i1 st fun x st => ab_iv Y x fun a b => ab_iv Y y fun c d => cond (sx_le (.ofNat 1) c && (sx_in a b && sx_in c d)) (cond (sx_le (.ofNat 0) a) (cond rm (ab_fr Y (.ofNat 0) (ab_mn b (d - 1)) [] fun v Y => k v Y st) (ab_fr Y (a / d) (b / c) [] fun v Y => k v Y st)) (cond rm (ab_fr Y (1 - d) (d - 1) [] fun v Y => k v Y st) (ab_ff Y fun v Y => k v Y st))) false
def ab_get (c : ab_co) (y i ci fk : Nat) (st : List ab_V) (Y : ab_Y) (R : ab_R) (m : ab_m) (k : List ab_V → ab_Y → ab_R → ab_m → Bool) : Bool := ab_r1 st fun r st => ab_tg R r fun t _ => cond ((Nat.beq t (1001 + ci) || (Nat.beq t 2010 && Nat.beq ci 9)) && Nat.blt ci 90) (match mj_so ci fk with
  | 0 => ab_rdi Y R m r (.inl (.ofNat fk)) fun v Y m => ab_psh c y i Y v fun v Y => k (.inl v :: st) Y R m
  | 1 => k (.inr (.inl ()) :: st) Y R m
  | _ => ab_rdr Y R m r (.inl (.ofNat fk)) fun u R m => k (.inr (.inr u) :: st) Y R m) false
def ab_gw (fk : Nat) (st : List ab_V) (Y : ab_Y) (R : ab_R) (k : List ab_V → ab_R → Bool) : Bool := ab_r1 st fun r st => ab_tg R r fun t _ => cond (Nat.beq (Nat.mod t 1000) 50) (match fk with
  | 0 => k (.inr (.inl ()) :: st) R
  | _ => cond (Nat.beq t 50) ((List.range 24).all fun q => sx_fi (mj_ww.getD q 0) fun z => sx_fn (900050 + 1000 * q) fun t => k (.inl (.inl z) :: st) (R.set r (t, 0))) (sx_fi (mj_ww.getD ((t - 900050) / 1000) 0) fun z => k (.inl (.inl z) :: st) R)) false
def ab_tf (Y : ab_Y) (x : ab_I) : Bool := ab_iv Y x fun a b => sx_le (.ofNat 0) a && sx_le b (.ofNat 1)
def ab_put (c : ab_co) (ci fk : Nat) (st : List ab_V) (Y : ab_Y) (R : ab_R) (m : ab_m) (k : List ab_V → ab_Y → ab_m → Bool) : Bool := match mj_so ci fk with
  | 0 => ab_i1 st fun z st => ab_r1 st fun r st => ab_tg R r fun t _ => cond (((Nat.beq t (1001 + ci) || (Nat.beq t 2010 && Nat.beq ci 9)) && Nat.blt ci 90) && (!sx_isb (mj_ty ci fk) || ab_tf Y z)) (ab_wri (ab_w c) Y R m r (.inl (.ofNat fk)) z fun Y m => k st Y m) false
  | 1 => ab_l1 st fun st => ab_r1 st fun r st => ab_tg R r fun t _ => cond ((Nat.beq t (1001 + ci) || (Nat.beq t 2010 && Nat.beq ci 9)) && Nat.blt ci 90) (k st Y m) false
  | _ => ab_r1 st fun u st => ab_r1 st fun r st => ab_tg R r fun t _ => cond ((Nat.beq t (1001 + ci) || (Nat.beq t 2010 && Nat.beq ci 9)) && Nat.blt ci 90) (ab_wrr (ab_w c) Y R m r (.inl (.ofNat fk)) u fun Y m => k st Y m) false
/-- a place of an array: the array, its tag, the index -/
def ab_ix (Y : ab_Y) (st : List ab_V) (R : ab_R) (k : Nat → Nat → ab_I → List ab_V → Bool) : Bool := ab_i1 st fun x st => ab_r1 st fun r st => ab_tg R r fun t n => ab_iv Y x fun lo hi => cond (sx_le (.ofNat 0) lo && !sx_le (.ofNat n) hi) (k r t x st) false
def ab_kn (Y : ab_Y) (x : ab_I) (k : Int → Bool) : Bool := ab_iv Y x fun a b => cond (sx_eq a b) (k a) false
/-- every place's bounds of a row that is copied -/
def ab_cpc (t sp t2 dp : Nat) : Nat → Bool
  | 0 => true
  | n + 1 => (sx_le (ab_rg t2 (dp + n)).1 (ab_rg t (sp + n)).1 && sx_le (ab_rg t (sp + n)).2 (ab_rg t2 (dp + n)).2) && ab_cpc t sp t2 dp n
def ab_lib (c : ab_co) (f : Nat) (st : List ab_V) (Y : ab_Y) (R : ab_R) (m : ab_m) (k : List ab_V → ab_Y → ab_m → Bool) : Bool := match f with
  | 0 => ab_i1 st fun y st => ab_i1 st fun x st => cond (Nat.ble (ab_cat st) 8) (cond (ab_ge Y x y (.ofNat 0)) (k (.inl x :: st) Y m) (cond (ab_ge Y y x (.ofNat 0)) (k (.inl y :: st) Y m) (ab_iv Y x fun a b => ab_iv Y y fun c d => ab_fr Y (ab_mx a c) (ab_mx b d) [] fun v Y => k (.inl v :: st) Y m))) false
  | 1 => ab_i1 st fun y st => ab_i1 st fun x st => cond (Nat.ble (ab_cat st) 8) (cond (ab_ge Y y x (.ofNat 0)) (k (.inl x :: st) Y m) (cond (ab_ge Y x y (.ofNat 0)) (k (.inl y :: st) Y m) (ab_iv Y x fun a b => ab_iv Y y fun c d => ab_fr Y (ab_mn a c) (ab_mn b d) [] fun v Y => k (.inl v :: st) Y m))) false
  | 2 => ab_i1 st fun x st => cond (Nat.ble (ab_cat st) 8) (ab_iv Y x fun a b => cond (sx_le (.ofNat 0) a) (k (.inl x :: st) Y m) (cond (sx_le a ab_lo) (ab_ff Y fun v Y => k (.inl v :: st) Y m) (ab_fr Y (cond (sx_le (.ofNat 0) b) (.ofNat 0) (-b)) (ab_mx (-a) b) [] fun v Y => k (.inl v :: st) Y m))) false
  | 3 => ab_i1 st fun n st => ab_i1 st fun dp st => ab_r1 st fun b st => ab_i1 st fun sp st => ab_r1 st fun a st => ab_kn Y n fun n => ab_kn Y dp fun dp => ab_kn Y sp fun sp => ab_tg R a fun ta na => ab_tg R b fun tb nb => cond (Nat.beq (Nat.mod ta 1000) 100 && (Nat.beq (Nat.mod tb 1000) 100 && (Nat.blt tb 900000 && (sx_le (.ofNat 0) sp && (sx_le (.ofNat 0) dp && (sx_le (.ofNat 1) n && (Nat.ble (sp.toNat + n.toNat) na && (Nat.ble (dp.toNat + n.toNat) nb && (Nat.ble (ab_cat st) 8 && (ab_cpc ta sp.toNat tb dp.toNat n.toNat && ab_cw (ab_w c) tb dp (dp + n - 1))))))))))) (k st Y (ab_kw [(tb, dp.toNat, dp.toNat + n.toNat - 1)] Y R m)) false
  | 4 => ab_i1 st fun n st => ab_i1 st fun dp st => ab_r1 st fun b st => ab_i1 st fun sp st => ab_r1 st fun a st => ab_kn Y n fun n => ab_kn Y dp fun dp => ab_kn Y sp fun sp => ab_tg R a fun ta na => ab_tg R b fun tb nb => cond (Nat.beq (Nat.mod ta 1000) 103 && (Nat.beq (Nat.mod tb 1000) 103 && ((Nat.blt tb 900000 && !Nat.beq tb 55103) && (sx_le (.ofNat 0) sp && (sx_le (.ofNat 0) dp && (sx_le (.ofNat 0) n && (Nat.ble (sp.toNat + n.toNat) na && (Nat.ble (dp.toNat + n.toNat) nb && Nat.ble (ab_cat st) 8)))))))) (k st Y m) false
  | _ => false
def ab_aq (cd : ClassFile.ACond) (a b : Bool) : Bool := match cd with
  | .eq => a
  | .ne => b
/-- one instruction -/
def ab_st (c : ab_co) (id : Nat) (K : ab_K) : ab_K := fun y d i rest L st fs Y R m E => match rest with
  | [] => false
  | x :: rest => match x.1 with
    | .iload_n k => ab_ldi L k.val fun v => K y d (Nat.succ i) rest L (.inl (ab_nr Y v) :: st) fs Y R m E
    | .iload k => ab_ldi L k fun v => K y d (Nat.succ i) rest L (.inl (ab_nr Y v) :: st) fs Y R m E
    | .lload_n k => ab_ldl L k.val (K y d (Nat.succ i) rest L (.inr (.inl ()) :: st) fs Y R m E)
    | .lload k => ab_ldl L k (K y d (Nat.succ i) rest L (.inr (.inl ()) :: st) fs Y R m E)
    | .aload_n k => ab_lda L k.val fun v => K y d (Nat.succ i) rest L (.inr (.inr v) :: st) fs Y R m E
    | .aload k => ab_lda L k fun v => K y d (Nat.succ i) rest L (.inr (.inr v) :: st) fs Y R m E
    | .istore_n k => ab_i1 st fun z st => K y d (Nat.succ i) rest (ab_s1 L k.val (.inl z)) st fs Y R m E
    | .istore k => ab_i1 st fun z st => K y d (Nat.succ i) rest (ab_s1 L k (.inl z)) st fs Y R m E
    | .lstore_n k => ab_l1 st fun st => K y d (Nat.succ i) rest (ab_s2 L k.val (.inr (.inl ()))) st fs Y R m E
    | .lstore k => ab_l1 st fun st => K y d (Nat.succ i) rest (ab_s2 L k (.inr (.inl ()))) st fs Y R m E
    | .astore_n k => ab_r1 st fun z st => K y d (Nat.succ i) rest (ab_s1 L k.val (.inr (.inr z))) st fs Y R m E
    | .astore k => ab_r1 st fun z st => K y d (Nat.succ i) rest (ab_s1 L k (.inr (.inr z))) st fs Y R m E
    | .iinc k z => ab_ldi L k fun v => ab_add Y v (.inl z) fun v Y => K y d (Nat.succ i) rest (ab_s1 L k (.inl v)) st fs Y R m E
    | .iconst z => K y d (Nat.succ i) rest L (.inl (.inl z) :: st) fs Y R m E
    | .bipush z => K y d (Nat.succ i) rest L (.inl (.inl z) :: st) fs Y R m E
    | .sipush z => K y d (Nat.succ i) rest L (.inl (.inl z) :: st) fs Y R m E
    | .ldc _ => K y d (Nat.succ i) rest L (.inl (.inl x.2.2.2) :: st) fs Y R m E
    | .ldc_w _ => K y d (Nat.succ i) rest L (.inl (.inl x.2.2.2) :: st) fs Y R m E
    | .ldc2_w _ => K y d (Nat.succ i) rest L (.inr (.inl ()) :: st) fs Y R m E
    | .lconst _ => K y d (Nat.succ i) rest L (.inr (.inl ()) :: st) fs Y R m E
    | .aconst_null => K y d (Nat.succ i) rest L (.inr (.inr R.length) :: st) fs Y (R ++ [(1, 0)]) m E
    | .iadd => ab_i1 st fun v st => ab_i1 st fun u st => ab_add Y u v fun w Y => K y d (Nat.succ i) rest L (.inl w :: st) fs Y R m E
    | .isub => ab_i1 st fun v st => ab_i1 st fun u st => ab_sub Y u v fun w Y => K y d (Nat.succ i) rest L (.inl w :: st) fs Y R m E
    | .imul => ab_i1 st fun v st => ab_i1 st fun u st => ab_mul Y u v fun w Y => K y d (Nat.succ i) rest L (.inl w :: st) fs Y R m E
    | .idiv => ab_dv Y st false fun w Y st => K y d (Nat.succ i) rest L (.inl w :: st) fs Y R m E
    | .irem => ab_dv Y st true fun w Y st => K y d (Nat.succ i) rest L (.inl w :: st) fs Y R m E
    | .iand => ab_bit Y E st true (fun x y => x &&& y) fun v Y E st => K y d (Nat.succ i) rest L (.inl v :: st) fs Y R m E
    | .ior => ab_bit Y E st false (fun x y => x ||| y) fun v Y E st => K y d (Nat.succ i) rest L (.inl v :: st) fs Y R m E
    | .ishl => ab_bit Y E st false (fun x y => x <<< (y &&& 31)) fun v Y E st => K y d (Nat.succ i) rest L (.inl v :: st) fs Y R m E
    | .ishr => ab_bit Y E st false (fun x y => x >>> (y &&& 31)) fun v Y E st => K y d (Nat.succ i) rest L (.inl v :: st) fs Y R m E
    | .iushr => ab_bit Y E st false (fun x y => (x.toUInt32 >>> (y.toUInt32 &&& Int32.toUInt32 31)).toInt32) fun v Y E st => K y d (Nat.succ i) rest L (.inl v :: st) fs Y R m E
    | .ineg => ab_un Y st true (fun x => -x) fun v Y st => K y d (Nat.succ i) rest L (.inl v :: st) fs Y R m E
    | .i2b => ab_un Y st false (fun x => x.toInt8.toInt32) fun v Y st => K y d (Nat.succ i) rest L (.inl v :: st) fs Y R m E
    | .lor => ab_l1 st fun st => ab_l1 st fun st => K y d (Nat.succ i) rest L (.inr (.inl ()) :: st) fs Y R m E
    | .land => ab_l1 st fun st => ab_l1 st fun st => K y d (Nat.succ i) rest L (.inr (.inl ()) :: st) fs Y R m E
    | .lshl => ab_i1 st fun _ st => ab_l1 st fun st => K y d (Nat.succ i) rest L (.inr (.inl ()) :: st) fs Y R m E
    | .lshr => ab_i1 st fun _ st => ab_l1 st fun st => K y d (Nat.succ i) rest L (.inr (.inl ()) :: st) fs Y R m E
    | .lcmp => ab_l1 st fun st => ab_l1 st fun st => ab_fr Y (.negSucc 0) (.ofNat 1) [] fun v Y => K y d (Nat.succ i) rest L (.inl v :: st) fs Y R m E
    | .i2l => ab_i1 st fun _ st => K y d (Nat.succ i) rest L (.inr (.inl ()) :: st) fs Y R m E
    | .l2i => ab_l1 st fun st => ab_ff Y fun v Y => K y d (Nat.succ i) rest L (.inl v :: st) fs Y R m E
    | .dup => ab_v1 st fun v st => K y d (Nat.succ i) rest L (v :: v :: st) fs Y R m E
    | .dup2 => ab_v1 st fun v st => ab_v1 st fun w st => K y d (Nat.succ i) rest L (v :: w :: v :: w :: st) fs Y R m E
    | .pop => ab_v1 st fun _ st => K y d (Nat.succ i) rest L st fs Y R m E
    | .ifCond cd _ => ab_i1 st fun z st => ab_br cd Y z (.inl (.ofNat 0)) (fun Y => K y d (mj_hd x.2.2.1) ((ab_full y).drop (mj_hd x.2.2.1)) L st fs Y R m E) (fun Y => K y d (Nat.succ i) rest L st fs Y R m E)
    | .if_icmp cd _ => ab_i1 st fun v st => ab_i1 st fun z st => ab_br cd Y z v (fun Y => K y d (mj_hd x.2.2.1) ((ab_full y).drop (mj_hd x.2.2.1)) L st fs Y R m E) (fun Y => K y d (Nat.succ i) rest L st fs Y R m E)
    | .ifnull _ => ab_r1 st fun z st => ab_tg R z fun t _ => cond (Nat.beq t 0 || Nat.beq t 1) (K y d (mj_hd x.2.2.1) ((ab_full y).drop (mj_hd x.2.2.1)) L st fs Y (cond (Nat.beq t 0) (R.set z (1, 0)) R) m E) true && cond (Nat.beq t 1) true (K y d (Nat.succ i) rest L st fs Y (cond (Nat.beq t 0) (R.set z (50, 0)) R) m E)
    | .ifnonnull _ => ab_r1 st fun z st => ab_tg R z fun t _ => cond (Nat.beq t 1) true (K y d (mj_hd x.2.2.1) ((ab_full y).drop (mj_hd x.2.2.1)) L st fs Y (cond (Nat.beq t 0) (R.set z (50, 0)) R) m E) && cond (Nat.beq t 0 || Nat.beq t 1) (K y d (Nat.succ i) rest L st fs Y (cond (Nat.beq t 0) (R.set z (1, 0)) R) m E) true
    | .if_acmp cd _ => ab_r1 st fun b st => ab_r1 st fun a st => ab_tg R a fun ta na => ab_tg R b fun tb nb => cond (Nat.ble 900000 tb && (Nat.beq (Nat.mod tb 1000) 50 && Nat.beq nb 0)) (cond (Nat.beq ta tb && Nat.beq na 0) (ab_aq cd (K y d (mj_hd x.2.2.1) ((ab_full y).drop (mj_hd x.2.2.1)) L st fs Y R m E) (K y d (Nat.succ i) rest L st fs Y R m E)) (cond (Nat.beq ta 0 || Nat.beq ta 50) (ab_aq cd (K y d (mj_hd x.2.2.1) ((ab_full y).drop (mj_hd x.2.2.1)) L st fs Y (R.set a (tb, 0)) m E && K y d (Nat.succ i) rest L st fs Y R m E) (K y d (mj_hd x.2.2.1) ((ab_full y).drop (mj_hd x.2.2.1)) L st fs Y R m E && K y d (Nat.succ i) rest L st fs Y (R.set a (tb, 0)) m E)) (cond (Nat.beq ta 1 || Nat.ble 900000 ta && Nat.beq (Nat.mod ta 1000) 50) (ab_aq cd (K y d (Nat.succ i) rest L st fs Y R m E) (K y d (mj_hd x.2.2.1) ((ab_full y).drop (mj_hd x.2.2.1)) L st fs Y R m E)) false))) false
    | .goto _ => K y d (mj_hd x.2.2.1) ((ab_full y).drop (mj_hd x.2.2.1)) L st fs Y R m E
    | .getstatic _ => !x.2.2.1.isEmpty && K y d (Nat.succ i) rest L (.inr (.inr R.length) :: st) fs Y (R ++ [mj_wt (mj_hd x.2.2.1)]) m E
    | .getfield _ => !x.2.2.1.isEmpty && cond (Nat.beq (mj_hd x.2.2.1) 49) (ab_gw (mj_h1 x.2.2.1) st Y R fun st R => K y d (Nat.succ i) rest L st fs Y R m E) (ab_get c y i (mj_hd x.2.2.1) (mj_h1 x.2.2.1) st Y R m fun st Y R m => K y d (Nat.succ i) rest L st fs Y R m E)
    | .putfield _ => !x.2.2.1.isEmpty && ab_put c (mj_hd x.2.2.1) (mj_h1 x.2.2.1) st Y R m fun st Y m => K y d (Nat.succ i) rest L st fs Y R m E
    | .iaload => ab_ix Y st R fun r t x st => cond (Nat.beq (Nat.mod t 1000) 100) (ab_rdi Y R m r x fun v Y m => ab_psh c y i Y v fun v Y => K y d (Nat.succ i) rest L (.inl v :: st) fs Y R m E) false
    | .baload => ab_ix Y st R fun r t x st => cond (Nat.beq (Nat.mod t 1000) 101 || Nat.beq (Nat.mod t 1000) 102) (ab_rdi Y R m r x fun v Y m => K y d (Nat.succ i) rest L (.inl v :: st) fs Y R m E) false
    | .laload => ab_ix Y st R fun _ t _ st => cond (Nat.beq (Nat.mod t 1000) 103) (K y d (Nat.succ i) rest L (.inr (.inl ()) :: st) fs Y R m E) false
    | .aaload => ab_ix Y st R fun r t v st => cond (Nat.beq (Nat.mod t 1000) (100 + mj_hd x.2.2.1)) (ab_rdr Y R m r v fun u R m => K y d (Nat.succ i) rest L (.inr (.inr u) :: st) fs Y R m E) false
    | .iastore => ab_i1 st fun z st => ab_ix Y st R fun r t x st => cond (Nat.beq (Nat.mod t 1000) 100) (ab_wri (ab_w c) Y R m r x z fun Y m => K y d (Nat.succ i) rest L st fs Y R m E) false
    | .bastore => ab_i1 st fun z st => ab_ix Y st R fun r t x st => cond (Nat.beq (Nat.mod t 1000) 101) (ab_iv Y z fun a b => cond (sx_le (.negSucc 127) a && sx_le b (.ofNat 127)) (ab_wri (ab_w c) Y R m r x z fun Y m => K y d (Nat.succ i) rest L st fs Y R m E) (ab_fr Y (.negSucc 127) (.ofNat 127) [] fun z Y => ab_wri (ab_w c) Y R m r x z fun Y m => K y d (Nat.succ i) rest L st fs Y R m E)) (cond (Nat.beq (Nat.mod t 1000) 102 && ab_tf Y z) (ab_wri (ab_w c) Y R m r x z fun Y m => K y d (Nat.succ i) rest L st fs Y R m E) false)
    | .lastore => ab_l1 st fun st => ab_ix Y st R fun _ t _ st => cond (Nat.beq (Nat.mod t 1000) 103 && (Nat.blt t 900000 && !Nat.beq t 55103)) (K y d (Nat.succ i) rest L st fs Y R m E) false
    | .aastore => ab_r1 st fun u st => ab_ix Y st R fun r t v st => cond (Nat.beq (Nat.mod t 1000) (100 + mj_hd x.2.2.1) && (Nat.beq (mj_hd x.2.2.1) 5 || Nat.beq (mj_hd x.2.2.1) 6)) (ab_tg R u fun tu _ => cond (Nat.beq tu 0 || (Nat.beq tu 1 || (Nat.beq (mj_hd x.2.2.1) 5 && Nat.beq (Nat.mod tu 1000) 50 || Nat.beq (mj_hd x.2.2.1) 6 && Nat.beq (Nat.mod tu 1000) 7))) (cond (Nat.beq tu 0 && !Nat.beq (mj_hd x.2.2.1) 5) false (ab_wrr (ab_w c) Y R m r v u fun Y m => K y d (Nat.succ i) rest L st fs Y R m E)) false) false
    | .tableswitch _ lo hi _ => ab_i1 st fun z st => ab_iv Y z fun a b => (cond (sx_le lo a) true (ab_rf1 .lt Y z lo lo fun Y => K y d (mj_hd x.2.2.1) ((ab_full y).drop (mj_hd x.2.2.1)) L st fs Y R m E) && cond (sx_le b hi) true (ab_rf1 .gt Y z hi hi fun Y => K y d (mj_hd x.2.2.1) ((ab_full y).drop (mj_hd x.2.2.1)) L st fs Y R m E)) && ab_swt Y z a b (fun t Y => K y d t ((ab_full y).drop t) L st fs Y R m E) lo (x.2.2.1.drop 1)
    | .arraylength => ab_r1 st fun r st => ab_tg R r fun t n => cond (Nat.ble 100 (Nat.mod t 1000) && (Nat.blt (Nat.mod t 1000) 107 && Nat.ble n 4096)) (K y d (Nat.succ i) rest L (.inl (.inl (.ofNat n)) :: st) fs Y R m E) false
    | .invokevirtual _ => !x.2.2.1.isEmpty && ab_pop (mj_h1 x.2.2.1) [] st fun As st => ab_r1 st fun a st => ab_tg R a fun t _ => cond (Nat.beq (Nat.mod t 1000) (mj_h2 x.2.2.1 + 1) && !Nat.beq t 1) (ab_call c id K y d (Nat.succ i) rest L st fs Y R m E (mj_hd x.2.2.1) (.inr (.inr a) :: As)) false
    | .invokestatic _ => match x.2.2.1 with
      | [] => false
      | [f, _] => ab_lib c f st Y R m fun st Y m => K y d (Nat.succ i) rest L st fs Y R m E
      | _ => ab_pop (mj_h1 x.2.2.1) [] st fun As st => ab_call c id K y d (Nat.succ i) rest L st fs Y R m E (mj_hd x.2.2.1) As
    | .invokespecial _ => match x.2.2.1 with
      | [] => false
      | f :: _ => ab_pop (mj_h1 x.2.2.1) [] st fun As st => ab_r1 st fun a st => ab_tg R a fun t _ => cond (Nat.beq (Nat.mod t 1000) (mj_h2 x.2.2.1 + 1) && !Nat.beq t 1) (ab_call c id K y d (Nat.succ i) rest L st fs Y R m E f (.inr (.inr a) :: As)) false
    | .ireturn => ab_i1 st fun z st => st.isEmpty && cond (sx_eq x.2.2.2 (.ofNat 1)) (ab_tf Y z && ab_spl Y z fun z Y => ab_ret c K fs Y R m E (some (.inl (.inl z)))) (ab_ret c K fs Y R m E (some (.inl z)))
    | .areturn => ab_r1 st fun z st => st.isEmpty && ab_ret c K fs Y R m E (some (.inr (.inr z)))
    | .return_ => st.isEmpty && ab_ret c K fs Y R m E none
    | _ => false
/-- a cut ends the run -/
def ab_sp (c : ab_co) (A : Option (List (ab_I × Nat))) (K : ab_K) : ab_K := fun y d i rest L st fs Y R m E => match fs with
  | [] => cond ((ab_c c).any (fun b => Nat.beq b.1 i)) (ab_arr c A i L st Y R m) (K y d i rest L st [] Y R m E)
  | f :: fs => K y d i rest L st (f :: fs) Y R m E
noncomputable def ab_ex (c : ab_co) (id : Nat) (A : Option (List (ab_I × Nat))) (n : Nat) : ab_K := Nat.rec (motive := fun _ => ab_K) (fun _ _ _ _ _ _ _ _ _ _ _ => false) (fun _ ih => ab_sp c A (ab_st c id ih)) n
def ab_mk (m : List (Nat × Nat × ab_V)) : ab_m := m.map (fun e => (e.1, .inl (.ofNat e.2.1), e.2.2))
def ab_dv1 (L : ab_L) : List ab_V := L.filterMap (fun v => v)
/-- the run from the entry -/
noncomputable def ab_ce (c : ab_co) (id : Nat) : Bool := Nat.ble (ab_cat (ab_dv1 (ab_p c).2.2.2)) (mj_tab (ab_y c)).2.2.1 && ab_st c id (ab_ex c id none 8000) (ab_y c) (ab_h c) 0 (ab_full (ab_y c)) (ab_en (ab_dv1 (ab_p c).2.2.2) (mj_tab (ab_y c)).2.2.1) [] [] (ab_p c).1 (ab_p c).2.1 (ab_mk (ab_p c).2.2.1) []
/-- the run from the cut b -/
noncomputable def ab_cc (c : ab_co) (id : Nat) (b : ab_cu) : Bool := (b.2.2.all (fun q => match q.1 with
  | .inl _ => true
  | .inr (i, _, _) => Nat.blt i b.2.1.1.length) && (ab_c c).all (fun b' => Nat.beq b'.2.2.length b.2.2.length)) && ab_st c id (ab_ex c id (some b.2.2) 8000) (ab_y c) (ab_h c) b.1 ((ab_full (ab_y c)).drop b.1) b.2.1.2.2.2 [] [] b.2.1.1 b.2.1.2.1 (ab_mk b.2.1.2.2.1) []
