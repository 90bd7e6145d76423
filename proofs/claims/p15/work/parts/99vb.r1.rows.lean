/-! ===== rows of the small machine for proofs by hand, a lemma an instruction ===== -/
abbrev wz (d : Nat) (full : List mj_E) (Q : mj_P) : mj_S := mj_W sx_ms (mj_R mj_tab d) full Q
section WZ
variable {d : Nat} {full : List mj_E} {Q : mj_P} {rest : List mj_E} {L : mj_L} {st : List mj_V} {G : mj_G} {M : mj_M} {cb sb pc : Nat} {aux : List Nat} {im : Int}
theorem wz_st (h : mj_x sx_ms (mj_R mj_tab d) full Q (wz d full Q) 1 rest L st G M cb sb) : wz d full Q rest L st G M cb sb := mj_W.run (mj_R_mo _ _) 1 h
theorem w_iln {k : Fin 4} {z : Int} (h : mj_nt L k.val = some (.inl z)) (kk : wz d full Q rest L (.inl z :: st) G M cb sb) : wz d full Q ((.iload_n k, pc, aux, im) :: rest) L st G M cb sb := by
  refine wz_st ?_
  show mj_ldi L k.val fun v => wz d full Q rest L (v :: st) G M cb sb
  unfold mj_ldi; rw [h]; exact kk
theorem w_il {k : Nat} {z : Int} (h : mj_nt L k = some (.inl z)) (kk : wz d full Q rest L (.inl z :: st) G M cb sb) : wz d full Q ((.iload k, pc, aux, im) :: rest) L st G M cb sb := by
  refine wz_st ?_
  show mj_ldi L k fun v => wz d full Q rest L (v :: st) G M cb sb
  unfold mj_ldi; rw [h]; exact kk
theorem w_aln {k : Fin 4} {r : Option Nat} (h : mj_nt L k.val = some (.inr (.inr r))) (kk : wz d full Q rest L (.inr (.inr r) :: st) G M cb sb) : wz d full Q ((.aload_n k, pc, aux, im) :: rest) L st G M cb sb := by
  refine wz_st ?_
  show mj_lda L k.val fun v => wz d full Q rest L (v :: st) G M cb sb
  unfold mj_lda; rw [h]; exact kk
theorem w_al {k : Nat} {r : Option Nat} (h : mj_nt L k = some (.inr (.inr r))) (kk : wz d full Q rest L (.inr (.inr r) :: st) G M cb sb) : wz d full Q ((.aload k, pc, aux, im) :: rest) L st G M cb sb := by
  refine wz_st ?_
  show mj_lda L k fun v => wz d full Q rest L (v :: st) G M cb sb
  unfold mj_lda; rw [h]; exact kk
theorem w_lln {k : Fin 4} {z : Int64} (h : mj_nt L k.val = some (.inr (.inl z))) (kk : wz d full Q rest L (.inr (.inl z) :: st) G M cb sb) : wz d full Q ((.lload_n k, pc, aux, im) :: rest) L st G M cb sb := by
  refine wz_st ?_
  show mj_ldl L k.val fun v => wz d full Q rest L (v :: st) G M cb sb
  unfold mj_ldl; rw [h]; exact kk
theorem w_isn {k : Fin 4} {z : Int} (kk : wz d full Q rest (mj_s1 L k.val (.inl z)) st G M cb sb) : wz d full Q ((.istore_n k, pc, aux, im) :: rest) L (.inl z :: st) G M cb sb := wz_st kk
theorem w_is {k : Nat} {z : Int} (kk : wz d full Q rest (mj_s1 L k (.inl z)) st G M cb sb) : wz d full Q ((.istore k, pc, aux, im) :: rest) L (.inl z :: st) G M cb sb := wz_st kk
theorem w_asn {k : Fin 4} {r : Option Nat} (kk : wz d full Q rest (mj_s1 L k.val (.inr (.inr r))) st G M cb sb) : wz d full Q ((.astore_n k, pc, aux, im) :: rest) L (.inr (.inr r) :: st) G M cb sb := wz_st kk
theorem w_as {k : Nat} {r : Option Nat} (kk : wz d full Q rest (mj_s1 L k (.inr (.inr r))) st G M cb sb) : wz d full Q ((.astore k, pc, aux, im) :: rest) L (.inr (.inr r) :: st) G M cb sb := wz_st kk
theorem w_ii {k : Nat} {c z : Int} (h : mj_nt L k = some (.inl z)) (hi : mj_in (z + c)) (kk : wz d full Q rest (mj_s1 L k (.inl (z + c))) st G M cb sb) : wz d full Q ((.iinc k c, pc, aux, im) :: rest) L st G M cb sb := by
  refine wz_st ?_
  show mj_ldi L k fun v => mj_i1 [v] fun z _ => (mj_in (z + c) ∧ wz d full Q rest (mj_s1 L k (.inl (z + c))) st G M cb sb) ∨ ∀ q, mj_in q → q = (Int32.ofInt z + Int32.ofInt c).toInt → wz d full Q rest (mj_s1 L k (.inl q)) st G M cb sb
  unfold mj_ldi; rw [h]; exact Or.inl ⟨hi, kk⟩
theorem w_ic {z : Int} (kk : wz d full Q rest L (.inl z :: st) G M cb sb) : wz d full Q ((.iconst z, pc, aux, im) :: rest) L st G M cb sb := wz_st kk
theorem w_bp {z : Int} (kk : wz d full Q rest L (.inl z :: st) G M cb sb) : wz d full Q ((.bipush z, pc, aux, im) :: rest) L st G M cb sb := wz_st kk
theorem w_sp {z : Int} (kk : wz d full Q rest L (.inl z :: st) G M cb sb) : wz d full Q ((.sipush z, pc, aux, im) :: rest) L st G M cb sb := wz_st kk
theorem w_lc {z : Fin 2} (kk : wz d full Q rest L (.inr (.inl (Int64.ofNat z.val)) :: st) G M cb sb) : wz d full Q ((.lconst z, pc, aux, im) :: rest) L st G M cb sb := wz_st kk
theorem w_l2 {k : Nat} (kk : wz d full Q rest L (.inr (.inl (Int64.ofInt im)) :: st) G M cb sb) : wz d full Q ((.ldc2_w k, pc, aux, im) :: rest) L st G M cb sb := wz_st kk
theorem w_nu (kk : wz d full Q rest L (.inr (.inr none) :: st) G M cb sb) : wz d full Q ((.aconst_null, pc, aux, im) :: rest) L st G M cb sb := wz_st kk
theorem w_add {x y : Int} (hi : mj_in (x + y)) (kk : wz d full Q rest L (.inl (x + y) :: st) G M cb sb) : wz d full Q ((.iadd, pc, aux, im) :: rest) L (.inl y :: .inl x :: st) G M cb sb := wz_st (Or.inl ⟨hi, kk⟩)
theorem w_sub {x y : Int} (hi : mj_in (x - y)) (kk : wz d full Q rest L (.inl (x - y) :: st) G M cb sb) : wz d full Q ((.isub, pc, aux, im) :: rest) L (.inl y :: .inl x :: st) G M cb sb := wz_st (Or.inl ⟨hi, kk⟩)
theorem w_mul {x y : Int} (hi : mj_in (x * y)) (kk : wz d full Q rest L (.inl (x * y) :: st) G M cb sb) : wz d full Q ((.imul, pc, aux, im) :: rest) L (.inl y :: .inl x :: st) G M cb sb := wz_st (Or.inl ⟨hi, kk⟩)
/-- those that wrap: any value that is so -/
theorem w_addw {x y : Int} (kk : ∀ z, mj_in z → z = (Int32.ofInt x + Int32.ofInt y).toInt → wz d full Q rest L (.inl z :: st) G M cb sb) : wz d full Q ((.iadd, pc, aux, im) :: rest) L (.inl y :: .inl x :: st) G M cb sb := wz_st (Or.inr kk)
theorem w_subw {x y : Int} (kk : ∀ z, mj_in z → z = (Int32.ofInt x - Int32.ofInt y).toInt → wz d full Q rest L (.inl z :: st) G M cb sb) : wz d full Q ((.isub, pc, aux, im) :: rest) L (.inl y :: .inl x :: st) G M cb sb := wz_st (Or.inr kk)
theorem w_mulw {x y : Int} (kk : ∀ z, mj_in z → z = (Int32.ofInt x * Int32.ofInt y).toInt → wz d full Q rest L (.inl z :: st) G M cb sb) : wz d full Q ((.imul, pc, aux, im) :: rest) L (.inl y :: .inl x :: st) G M cb sb := wz_st (Or.inr kk)
theorem w_and {x y : Int} (kk : ∀ z, mj_in z → z = (Int32.ofInt x &&& Int32.ofInt y).toInt → wz d full Q rest L (.inl z :: st) G M cb sb) : wz d full Q ((.iand, pc, aux, im) :: rest) L (.inl y :: .inl x :: st) G M cb sb := wz_st kk
theorem w_or {x y : Int} (kk : ∀ z, mj_in z → z = (Int32.ofInt x ||| Int32.ofInt y).toInt → wz d full Q rest L (.inl z :: st) G M cb sb) : wz d full Q ((.ior, pc, aux, im) :: rest) L (.inl y :: .inl x :: st) G M cb sb := wz_st kk
theorem w_shl {x y : Int} (kk : ∀ z, mj_in z → z = (Int32.ofInt x <<< (Int32.ofInt y &&& 31)).toInt → wz d full Q rest L (.inl z :: st) G M cb sb) : wz d full Q ((.ishl, pc, aux, im) :: rest) L (.inl y :: .inl x :: st) G M cb sb := wz_st kk
theorem w_shr {x y : Int} (kk : ∀ z, mj_in z → z = (Int32.ofInt x >>> (Int32.ofInt y &&& 31)).toInt → wz d full Q rest L (.inl z :: st) G M cb sb) : wz d full Q ((.ishr, pc, aux, im) :: rest) L (.inl y :: .inl x :: st) G M cb sb := wz_st kk
theorem w_ushr {x y : Int} (kk : ∀ z, mj_in z → z = (((Int32.ofInt x).toUInt32 >>> ((Int32.ofInt y).toUInt32 &&& Int32.toUInt32 31)).toInt32).toInt → wz d full Q rest L (.inl z :: st) G M cb sb) : wz d full Q ((.iushr, pc, aux, im) :: rest) L (.inl y :: .inl x :: st) G M cb sb := wz_st kk
theorem w_i2b {x : Int} (kk : ∀ z, mj_in z → z = ((Int32.ofInt x).toInt8.toInt32).toInt → wz d full Q rest L (.inl z :: st) G M cb sb) : wz d full Q ((.i2b, pc, aux, im) :: rest) L (.inl x :: st) G M cb sb := wz_st kk
theorem w_i2l {x : Int} (kk : wz d full Q rest L (.inr (.inl (Int32.ofInt x).toInt64) :: st) G M cb sb) : wz d full Q ((.i2l, pc, aux, im) :: rest) L (.inl x :: st) G M cb sb := wz_st kk
theorem w_lor {x y : Int64} (kk : wz d full Q rest L (.inr (.inl (x ||| y)) :: st) G M cb sb) : wz d full Q ((.lor, pc, aux, im) :: rest) L (.inr (.inl y) :: .inr (.inl x) :: st) G M cb sb := wz_st kk
theorem w_lshl {x : Int64} {y : Int} (kk : wz d full Q rest L (.inr (.inl (x <<< ((Int32.ofInt y).toInt64 &&& 63))) :: st) G M cb sb) : wz d full Q ((.lshl, pc, aux, im) :: rest) L (.inl y :: .inr (.inl x) :: st) G M cb sb := wz_st kk
theorem w_lcmp {x y : Int64} (kk : ∀ z, mj_in z → z = (lg_cmp x y).toInt → wz d full Q rest L (.inl z :: st) G M cb sb) : wz d full Q ((.lcmp, pc, aux, im) :: rest) L (.inr (.inl y) :: .inr (.inl x) :: st) G M cb sb := wz_st kk
theorem w_dupi {v : Int} (kk : wz d full Q rest L (.inl v :: .inl v :: st) G M cb sb) : wz d full Q ((.dup, pc, aux, im) :: rest) L (.inl v :: st) G M cb sb := wz_st kk
theorem w_dupr {v : Option Nat} (kk : wz d full Q rest L (.inr (.inr v) :: .inr (.inr v) :: st) G M cb sb) : wz d full Q ((.dup, pc, aux, im) :: rest) L (.inr (.inr v) :: st) G M cb sb := wz_st kk
theorem w_dup2 {v : Int} {a : Option Nat} (kk : wz d full Q rest L (.inl v :: .inr (.inr a) :: .inl v :: .inr (.inr a) :: st) G M cb sb) : wz d full Q ((.dup2, pc, aux, im) :: rest) L (.inl v :: .inr (.inr a) :: st) G M cb sb := wz_st kk
theorem w_pop {v : Int} (kk : wz d full Q rest L st G M cb sb) : wz d full Q ((.pop, pc, aux, im) :: rest) L (.inl v :: st) G M cb sb := wz_st kk
theorem w_goto {o : Int} {t : Nat} (kk : wz d full Q (full.drop t) L st G M cb sb) : wz d full Q ((.goto o, pc, [t], im) :: rest) L st G M cb sb := wz_st kk
theorem w_ifeq {o z : Int} {t : Nat} (k1 : z = 0 → wz d full Q (full.drop t) L st G M cb sb) (k2 : z ≠ 0 → wz d full Q rest L st G M cb sb) : wz d full Q ((.ifCond .eq o, pc, [t], im) :: rest) L (.inl z :: st) G M cb sb := wz_st (And.intro k1 k2)
theorem w_ifne {o z : Int} {t : Nat} (k1 : z ≠ 0 → wz d full Q (full.drop t) L st G M cb sb) (k2 : z = 0 → wz d full Q rest L st G M cb sb) : wz d full Q ((.ifCond .ne o, pc, [t], im) :: rest) L (.inl z :: st) G M cb sb := wz_st (And.intro k1 (fun h => k2 (Decidable.not_not.mp h)))
theorem w_iflt {o z : Int} {t : Nat} (k1 : z < 0 → wz d full Q (full.drop t) L st G M cb sb) (k2 : 0 ≤ z → wz d full Q rest L st G M cb sb) : wz d full Q ((.ifCond .lt o, pc, [t], im) :: rest) L (.inl z :: st) G M cb sb := wz_st (And.intro k1 (fun h => k2 (Int.not_lt.mp h)))
theorem w_ifge {o z : Int} {t : Nat} (k1 : 0 ≤ z → wz d full Q (full.drop t) L st G M cb sb) (k2 : z < 0 → wz d full Q rest L st G M cb sb) : wz d full Q ((.ifCond .ge o, pc, [t], im) :: rest) L (.inl z :: st) G M cb sb := wz_st (And.intro k1 (fun h => k2 (Int.not_le.mp h)))
theorem w_ifgt {o z : Int} {t : Nat} (k1 : 0 < z → wz d full Q (full.drop t) L st G M cb sb) (k2 : z ≤ 0 → wz d full Q rest L st G M cb sb) : wz d full Q ((.ifCond .gt o, pc, [t], im) :: rest) L (.inl z :: st) G M cb sb := wz_st (And.intro k1 (fun h => k2 (Int.not_lt.mp h)))
theorem w_ifle {o z : Int} {t : Nat} (k1 : z ≤ 0 → wz d full Q (full.drop t) L st G M cb sb) (k2 : 0 < z → wz d full Q rest L st G M cb sb) : wz d full Q ((.ifCond .le o, pc, [t], im) :: rest) L (.inl z :: st) G M cb sb := wz_st (And.intro k1 (fun h => k2 (Int.not_le.mp h)))
theorem w_cmeq {o x y : Int} {t : Nat} (k1 : x = y → wz d full Q (full.drop t) L st G M cb sb) (k2 : x ≠ y → wz d full Q rest L st G M cb sb) : wz d full Q ((.if_icmp .eq o, pc, [t], im) :: rest) L (.inl y :: .inl x :: st) G M cb sb := wz_st (And.intro k1 k2)
theorem w_cmne {o x y : Int} {t : Nat} (k1 : x ≠ y → wz d full Q (full.drop t) L st G M cb sb) (k2 : x = y → wz d full Q rest L st G M cb sb) : wz d full Q ((.if_icmp .ne o, pc, [t], im) :: rest) L (.inl y :: .inl x :: st) G M cb sb := wz_st (And.intro k1 (fun h => k2 (Decidable.not_not.mp h)))
theorem w_cmlt {o x y : Int} {t : Nat} (k1 : x < y → wz d full Q (full.drop t) L st G M cb sb) (k2 : y ≤ x → wz d full Q rest L st G M cb sb) : wz d full Q ((.if_icmp .lt o, pc, [t], im) :: rest) L (.inl y :: .inl x :: st) G M cb sb := wz_st (And.intro k1 (fun h => k2 (Int.not_lt.mp h)))
theorem w_cmge {o x y : Int} {t : Nat} (k1 : y ≤ x → wz d full Q (full.drop t) L st G M cb sb) (k2 : x < y → wz d full Q rest L st G M cb sb) : wz d full Q ((.if_icmp .ge o, pc, [t], im) :: rest) L (.inl y :: .inl x :: st) G M cb sb := wz_st (And.intro k1 (fun h => k2 (Int.not_le.mp h)))
theorem w_cmgt {o x y : Int} {t : Nat} (k1 : y < x → wz d full Q (full.drop t) L st G M cb sb) (k2 : x ≤ y → wz d full Q rest L st G M cb sb) : wz d full Q ((.if_icmp .gt o, pc, [t], im) :: rest) L (.inl y :: .inl x :: st) G M cb sb := wz_st (And.intro k1 (fun h => k2 (Int.not_lt.mp h)))
theorem w_cmle {o x y : Int} {t : Nat} (k1 : x ≤ y → wz d full Q (full.drop t) L st G M cb sb) (k2 : y < x → wz d full Q rest L st G M cb sb) : wz d full Q ((.if_icmp .le o, pc, [t], im) :: rest) L (.inl y :: .inl x :: st) G M cb sb := wz_st (And.intro k1 (fun h => k2 (Int.not_le.mp h)))
theorem w_aceq {o : Int} {x y : Option Nat} {t : Nat} (k1 : x = y → wz d full Q (full.drop t) L st G M cb sb) (k2 : x ≠ y → wz d full Q rest L st G M cb sb) : wz d full Q ((.if_acmp .eq o, pc, [t], im) :: rest) L (.inr (.inr y) :: .inr (.inr x) :: st) G M cb sb := wz_st (And.intro k1 k2)
theorem w_acne {o : Int} {x y : Option Nat} {t : Nat} (k1 : x ≠ y → wz d full Q (full.drop t) L st G M cb sb) (k2 : x = y → wz d full Q rest L st G M cb sb) : wz d full Q ((.if_acmp .ne o, pc, [t], im) :: rest) L (.inr (.inr y) :: .inr (.inr x) :: st) G M cb sb := wz_st (And.intro k1 (fun h => k2 (Decidable.not_not.mp h)))
theorem w_ifnull {o : Int} {x : Option Nat} {t : Nat} (k1 : x = none → wz d full Q (full.drop t) L st G M cb sb) (k2 : x ≠ none → wz d full Q rest L st G M cb sb) : wz d full Q ((.ifnull o, pc, [t], im) :: rest) L (.inr (.inr x) :: st) G M cb sb := wz_st (And.intro k1 k2)
theorem w_ifnn {o : Int} {x : Option Nat} {t : Nat} (k1 : x ≠ none → wz d full Q (full.drop t) L st G M cb sb) (k2 : x = none → wz d full Q rest L st G M cb sb) : wz d full Q ((.ifnonnull o, pc, [t], im) :: rest) L (.inr (.inr x) :: st) G M cb sb := wz_st (And.intro k1 (fun h => k2 (Decidable.not_not.mp h)))
theorem w_gi {k ci fk w a t n : Nat} {v : Int} (ha : G a = (t, n)) (ht : t % 1000 = ci + 1) (h49 : ci ≠ 49) (hso : mj_so ci fk = 0) (hv : M.1 a fk = v) (kk : wz d full Q rest L (.inl v :: st) G M cb sb) : wz d full Q ((.getfield k, pc, [ci, fk, w], im) :: rest) L (.inr (.inr (some a)) :: st) G M cb sb := wz_st (hg_i (ci := ci) (fk := fk) (List.cons_ne_nil _ _) rfl h49 rfl hso ha ht hv kk)
theorem w_gr {k ci fk w a t n b : Nat} (ha : G a = (t, n)) (ht : t % 1000 = ci + 1) (h49 : ci ≠ 49) (hso : mj_so ci fk = 2) (hv : M.2.2 a fk = some b) (kk : wz d full Q rest L (.inr (.inr (some b)) :: st) G M cb sb) : wz d full Q ((.getfield k, pc, [ci, fk, w], im) :: rest) L (.inr (.inr (some a)) :: st) G M cb sb := wz_st (hg_r (ci := ci) (fk := fk) (List.cons_ne_nil _ _) rfl h49 rfl hso ha ht hv kk)
theorem w_gro {k ci fk w a t n : Nat} {o : Option Nat} (ha : G a = (t, n)) (ht : t % 1000 = ci + 1) (h49 : ci ≠ 49) (hso : mj_so ci fk = 2) (hv : M.2.2 a fk = o) (kk : wz d full Q rest L (.inr (.inr o) :: st) G M cb sb) : wz d full Q ((.getfield k, pc, [ci, fk, w], im) :: rest) L (.inr (.inr (some a)) :: st) G M cb sb := by
  refine wz_st ⟨List.cons_ne_nil _ _, fun e => absurd e h49, fun _ => ?_⟩
  refine ⟨t, n, ha, ht, ?_⟩
  show (match mj_so ci fk with
    | 0 => wz d full Q rest L (.inl (M.1 a fk) :: st) G M cb sb
    | 1 => wz d full Q rest L (.inr (.inl (M.2.1 a fk)) :: st) G M cb sb
    | _ => mj_rf (M.2.2 a fk) fun v => wz d full Q rest L (v :: st) G M cb sb)
  rw [hso]
  refine ⟨fun b hb => ?_, fun hb => ?_⟩
  · rw [← hb, hv]; exact kk
  · rw [hv] at hb; rw [hb] at kk; exact kk
theorem w_gl {k ci fk w a t n : Nat} {v : Int64} (ha : G a = (t, n)) (ht : t % 1000 = ci + 1) (h49 : ci ≠ 49) (hso : mj_so ci fk = 1) (hv : M.2.1 a fk = v) (kk : wz d full Q rest L (.inr (.inl v) :: st) G M cb sb) : wz d full Q ((.getfield k, pc, [ci, fk, w], im) :: rest) L (.inr (.inr (some a)) :: st) G M cb sb := by
  refine wz_st ⟨List.cons_ne_nil _ _, fun e => absurd e h49, fun _ => ?_⟩
  refine ⟨t, n, ha, ht, ?_⟩
  show (match mj_so ci fk with
    | 0 => wz d full Q rest L (.inl (M.1 a fk) :: st) G M cb sb
    | 1 => wz d full Q rest L (.inr (.inl (M.2.1 a fk)) :: st) G M cb sb
    | _ => mj_rf (M.2.2 a fk) fun v => wz d full Q rest L (v :: st) G M cb sb)
  rw [hso]
  show wz d full Q rest L (.inr (.inl (M.2.1 a fk)) :: st) G M cb sb
  rw [hv]; exact kk
theorem w_pi {k ci fk w a t n : Nat} {v : Int} (ha : G a = (t, n)) (ht : t % 1000 = ci + 1) (h9 : t < 900000) (hso : mj_so ci fk = 0) (hb : mj_ty ci fk = .boolean → v = 0 ∨ v = 1) (kk : wz d full Q rest L st G (mj_p0 M a fk v) cb sb) : wz d full Q ((.putfield k, pc, [ci, fk, w], im) :: rest) L (.inl v :: .inr (.inr (some a)) :: st) G M cb sb := by
  refine wz_st ⟨List.cons_ne_nil _ _, ?_⟩
  show mj_put ci fk (.inl v :: .inr (.inr (some a)) :: st) G M fun st M => wz d full Q rest L st G M cb sb
  unfold mj_put
  rw [hso]
  exact ⟨t, n, ha, ht, h9, hb, kk⟩
theorem w_pl {k ci fk w a t n : Nat} {v : Int64} (ha : G a = (t, n)) (ht : t % 1000 = ci + 1) (h9 : t < 900000) (hso : mj_so ci fk = 1) (kk : wz d full Q rest L st G (mj_p1 M a fk v) cb sb) : wz d full Q ((.putfield k, pc, [ci, fk, w], im) :: rest) L (.inr (.inl v) :: .inr (.inr (some a)) :: st) G M cb sb := by
  refine wz_st ⟨List.cons_ne_nil _ _, ?_⟩
  show mj_put ci fk (.inr (.inl v) :: .inr (.inr (some a)) :: st) G M fun st M => wz d full Q rest L st G M cb sb
  unfold mj_put
  rw [hso]
  exact ⟨t, n, ha, ht, h9, kk⟩
theorem w_pr {k ci fk w a t n : Nat} {v : Option Nat} (ha : G a = (t, n)) (ht : t % 1000 = ci + 1) (h9 : t < 900000) (hso : mj_so ci fk = 2) (kk : wz d full Q rest L st G (mj_p2 M a fk v) cb sb) : wz d full Q ((.putfield k, pc, [ci, fk, w], im) :: rest) L (.inr (.inr v) :: .inr (.inr (some a)) :: st) G M cb sb := by
  refine wz_st ⟨List.cons_ne_nil _ _, ?_⟩
  show mj_put ci fk (.inr (.inr v) :: .inr (.inr (some a)) :: st) G M fun st M => wz d full Q rest L st G M cb sb
  unfold mj_put
  rw [hso]
  exact ⟨t, n, ha, ht, h9, kk⟩
theorem w_iald {a t n : Nat} {i v : Int} (ha : G a = (t, n)) (ht : t % 1000 = 100) (h0 : 0 ≤ i) (h1 : i < n) (hv : M.1 a i.toNat = v) (kk : wz d full Q rest L (.inl v :: st) G M cb sb) : wz d full Q ((.iaload, pc, aux, im) :: rest) L (.inl i :: .inr (.inr (some a)) :: st) G M cb sb := wz_st ⟨t, n, ha, ht, h0, h1, by rw [← hv] at kk; exact kk⟩
theorem w_bald {a t n : Nat} {i v : Int} (ha : G a = (t, n)) (ht : t % 1000 = 101) (h0 : 0 ≤ i) (h1 : i < n) (hv : M.1 a i.toNat = v) (kk : wz d full Q rest L (.inl v :: st) G M cb sb) : wz d full Q ((.baload, pc, aux, im) :: rest) L (.inl i :: .inr (.inr (some a)) :: st) G M cb sb := wz_st (Or.inl ⟨t, n, ha, ht, h0, h1, by rw [← hv] at kk; exact kk⟩)
theorem w_lald {a t n : Nat} {i : Int} {v : Int64} (ha : G a = (t, n)) (ht : t % 1000 = 103) (h0 : 0 ≤ i) (h1 : i < n) (hv : M.2.1 a i.toNat = v) (kk : wz d full Q rest L (.inr (.inl v) :: st) G M cb sb) : wz d full Q ((.laload, pc, aux, im) :: rest) L (.inl i :: .inr (.inr (some a)) :: st) G M cb sb := wz_st ⟨t, n, ha, ht, h0, h1, by rw [← hv] at kk; exact kk⟩
theorem w_aald {j a t n b : Nat} {i : Int} (ha : G a = (t, n)) (ht : t % 1000 = 100 + j) (h0 : 0 ≤ i) (h1 : i < n) (hv : M.2.2 a i.toNat = some b) (kk : wz d full Q rest L (.inr (.inr (some b)) :: st) G M cb sb) : wz d full Q ((.aaload, pc, j :: aux, im) :: rest) L (.inl i :: .inr (.inr (some a)) :: st) G M cb sb := wz_st ⟨t, n, ha, ht, h0, h1, fun b' hb => by cases hv.symm.trans hb; exact kk, fun hb => by cases hv.symm.trans hb⟩
theorem w_iast {a t n : Nat} {i v : Int} (ha : G a = (t, n)) (ht : t % 1000 = 100) (h9 : t < 900000) (h0 : 0 ≤ i) (h1 : i < n) (kk : wz d full Q rest L st G (mj_p0 M a i.toNat v) cb sb) : wz d full Q ((.iastore, pc, aux, im) :: rest) L (.inl v :: .inl i :: .inr (.inr (some a)) :: st) G M cb sb := wz_st ⟨t, n, ha, ht, h9, h0, h1, kk⟩
theorem w_bast {a t n : Nat} {i v : Int} (ha : G a = (t, n)) (ht : t % 1000 = 101) (h9 : t < 900000) (h0 : 0 ≤ i) (h1 : i < n) (kk : wz d full Q rest L st G (mj_p0 M a i.toNat (mj_nb v)) cb sb) : wz d full Q ((.bastore, pc, aux, im) :: rest) L (.inl v :: .inl i :: .inr (.inr (some a)) :: st) G M cb sb := wz_st (Or.inl ⟨t, n, ha, ht, h9, h0, h1, kk⟩)
theorem w_last {a t n : Nat} {i : Int} {v : Int64} (ha : G a = (t, n)) (ht : t % 1000 = 103) (h9 : t < 900000) (h0 : 0 ≤ i) (h1 : i < n) (kk : wz d full Q rest L st G (mj_p1 M a i.toNat v) cb sb) : wz d full Q ((.lastore, pc, aux, im) :: rest) L (.inr (.inl v) :: .inl i :: .inr (.inr (some a)) :: st) G M cb sb := wz_st ⟨t, n, ha, ht, h9, h0, h1, kk⟩
theorem w_cv {y N ci w k t n a : Nat} (hm : sx_ms y = (0, 0)) (ha : G a = (t, n)) (ht : t % 1000 = ci + 1) (h8 : mj_cat st ≤ 8) {st1 : List mj_V} {As : List mj_V} (hp : ∀ kk : List mj_V → List mj_V → Prop, kk As (.inr (.inr (some a)) :: st) → mj_pop N [] st1 kk) (kk : mj_R mj_tab d y (.inr (.inr (some a)) :: As) G M fun r G M => wz d full Q rest L (mj_ret r st) G M cb sb) : wz d full Q ((.invokevirtual k, pc, [y, N, ci, w], im) :: rest) L st1 G M cb sb := by
  refine wz_st ⟨List.cons_ne_nil _ _, hp _ ?_⟩
  refine ⟨t, n, ha, ht, h8, ?_, ?_, ?_⟩
  · show (sx_ms y).1 ≤ cb
    rw [hm]; exact Nat.zero_le _
  · show (sx_ms y).2 ≤ sb
    rw [hm]; exact Nat.zero_le _
  · show mj_R mj_tab d y (.inr (.inr (some a)) :: As) G M fun r G M => wz d full Q rest L (mj_ret r st) G M (cb - (sx_ms y).1) (sb - (sx_ms y).2)
    rw [hm]
    exact kk
theorem w_cs {y N ci w k : Nat} (hm : sx_ms y = (0, 0)) (h8 : mj_cat st ≤ 8) {st1 : List mj_V} {As : List mj_V} (hp : ∀ kk : List mj_V → List mj_V → Prop, kk As st → mj_pop N [] st1 kk) (kk : mj_R mj_tab d y As G M fun r G M => wz d full Q rest L (mj_ret r st) G M cb sb) : wz d full Q ((.invokestatic k, pc, [y, N, ci, w], im) :: rest) L st1 G M cb sb := by
  refine wz_st ⟨List.cons_ne_nil _ _, hp _ ?_⟩
  refine ⟨h8, ?_, ?_, ?_⟩
  · show (sx_ms y).1 ≤ cb
    rw [hm]; exact Nat.zero_le _
  · show (sx_ms y).2 ≤ sb
    rw [hm]; exact Nat.zero_le _
  · show mj_R mj_tab d y As G M fun r G M => wz d full Q rest L (mj_ret r st) G M (cb - (sx_ms y).1) (sb - (sx_ms y).2)
    rw [hm]
    exact kk
theorem w_min {w : Nat} {k : Nat} {x y : Int} (h8 : mj_cat st ≤ 8) (kk : ∀ z, (y < x → z = y) → (¬ y < x → z = x) → wz d full Q rest L (.inl z :: st) G M cb sb) : wz d full Q ((.invokestatic k, pc, [1, w], im) :: rest) L (.inl y :: .inl x :: st) G M cb sb := wz_st ⟨h8, kk⟩
theorem w_max {w : Nat} {k : Nat} {x y : Int} (h8 : mj_cat st ≤ 8) (kk : ∀ z, (x < y → z = y) → (¬ x < y → z = x) → wz d full Q rest L (.inl z :: st) G M cb sb) : wz d full Q ((.invokestatic k, pc, [0, w], im) :: rest) L (.inl y :: .inl x :: st) G M cb sb := wz_st ⟨h8, kk⟩
theorem w_iret {z : Int} (hb : im = 1 → z = 0 ∨ z = 1) (kk : Q (some (.inl z)) G M) : wz d full Q ((.ireturn, pc, aux, im) :: rest) L [.inl z] G M cb sb := wz_st ⟨rfl, hb, kk⟩
theorem w_ret (kk : Q none G M) : wz d full Q ((.return_, pc, aux, im) :: rest) L [] G M cb sb := wz_st ⟨rfl, kk⟩
theorem w_aret {r : Option Nat} (kk : Q (some (.inr (.inr r))) G M) : wz d full Q ((.areturn, pc, aux, im) :: rest) L [.inr (.inr r)] G M cb sb := wz_st ⟨rfl, kk⟩
theorem w_gs {k w i : Nat} (kk : ∀ a, G a = mj_wt k → wz d full Q rest L (.inr (.inr (some a)) :: st) G M cb sb) : wz d full Q ((.getstatic i, pc, [k, w], im) :: rest) L st G M cb sb := wz_st ⟨List.cons_ne_nil _ _, kk⟩
theorem w_len {a t n j : Nat} (ha : G a = (t, n)) (ht : t % 1000 = 100 + j) (hj : j < 7) (hn : mj_in (n : Int)) (kk : wz d full Q rest L (.inl (n : Int) :: st) G M cb sb) : wz d full Q ((.arraylength, pc, aux, im) :: rest) L (.inr (.inr (some a)) :: st) G M cb sb := wz_st ⟨t, n, j, ha, ht, hj, hn, kk⟩
theorem w_gwc {i w a k : Nat} (ha : G a = (900050 + 1000 * k, 0)) (kk : wz d full Q rest L (.inr (.inl (mj_wc.getD k 0)) :: st) G M cb sb) : wz d full Q ((.getfield i, pc, [49, 0, w], im) :: rest) L (.inr (.inr (some a)) :: st) G M cb sb := by
  refine wz_st ⟨List.cons_ne_nil _ _, fun _ => ?_, fun e => absurd rfl e⟩
  refine ⟨900050 + 1000 * k, 0, ha, by omega, ?_⟩
  show wz d full Q rest L (.inr (.inl (mj_wc.getD ((900050 + 1000 * k - 900050) / 1000) 0)) :: st) G M cb sb
  rw [show (900050 + 1000 * k - 900050) / 1000 = k by omega]
  exact kk
theorem w_gww {i w a k : Nat} (ha : G a = (900050 + 1000 * k, 0)) (kk : wz d full Q rest L (.inl (mj_ww.getD k 0) :: st) G M cb sb) : wz d full Q ((.getfield i, pc, [49, 1, w], im) :: rest) L (.inr (.inr (some a)) :: st) G M cb sb := by
  refine wz_st ⟨List.cons_ne_nil _ _, fun _ => ?_, fun e => absurd rfl e⟩
  refine ⟨900050 + 1000 * k, 0, ha, by omega, ?_⟩
  show wz d full Q rest L (.inl (mj_ww.getD ((900050 + 1000 * k - 900050) / 1000) 0) :: st) G M cb sb
  rw [show (900050 + 1000 * k - 900050) / 1000 = k by omega]
  exact kk
end WZ
