/-! ===== a step of the makers' run, and that it is one of the small machine (laid by a program from 40 and p1's) ===== -/
noncomputable def sz_st (K : sx_K) : sx_K := fun y d rest L st cb sb fs h Y => match rest with
  | [] => false
  | x :: rest => match x.1 with
    | .iload_n i => sx_ldi L i.val fun v => K y d rest L (.inl v :: st) cb sb fs h Y
    | .iload i => sx_ldi L i fun v => K y d rest L (.inl v :: st) cb sb fs h Y
    | .lload_n i => sx_ldl L i.val fun v => K y d rest L (.inr (.inl v) :: st) cb sb fs h Y
    | .lload i => sx_ldl L i fun v => K y d rest L (.inr (.inl v) :: st) cb sb fs h Y
    | .aload_n i => sx_lda L i.val fun v => K y d rest L (.inr (.inr v) :: st) cb sb fs h Y
    | .aload i => sx_lda L i fun v => K y d rest L (.inr (.inr v) :: st) cb sb fs h Y
    | .istore_n i => sx_i1 st fun z st => K y d rest (sx_s1 L i.val (.inl z)) st cb sb fs h Y
    | .istore i => sx_i1 st fun z st => K y d rest (sx_s1 L i (.inl z)) st cb sb fs h Y
    | .astore_n i => sx_r1 st fun z st => K y d rest (sx_s1 L i.val (.inr (.inr z))) st cb sb fs h Y
    | .astore i => sx_r1 st fun z st => K y d rest (sx_s1 L i (.inr (.inr z))) st cb sb fs h Y
    | .iinc i c => sx_ldi L i fun v => sx_iv Y v fun lo hi => sx_ai Y (lo + c) (hi + c) (fun v Y => K y d rest (sx_s1 L i (.inl v)) st cb sb fs h Y) false
    | .iconst z => K y d rest L (.inl (.inl z) :: st) cb sb fs h Y
    | .bipush z => K y d rest L (.inl (.inl z) :: st) cb sb fs h Y
    | .sipush z => K y d rest L (.inl (.inl z) :: st) cb sb fs h Y
    | .ldc _ => K y d rest L (.inl (.inl x.2.2.2) :: st) cb sb fs h Y
    | .ldc2_w _ => K y d rest L (.inr (.inl (Int64.ofInt x.2.2.2)) :: st) cb sb fs h Y
    | .lconst z => K y d rest L (.inr (.inl (Int64.ofNat z.val)) :: st) cb sb fs h Y
    | .aconst_null => K y d rest L (.inr (.inr none) :: st) cb sb fs h Y
    | .iadd => sx_op2 Y st sx_fadd fun v Y st => K y d rest L (.inl v :: st) cb sb fs h Y
    | .isub => sx_op2 Y st sx_fsub fun v Y st => K y d rest L (.inl v :: st) cb sb fs h Y
    | .imul => sx_op2 Y st sx_fmul fun v Y st => K y d rest L (.inl v :: st) cb sb fs h Y
    | .iand => (sx_bit Y st true (fun x y => x &&& y) fun v Y st => K y d rest L (.inl v :: st) cb sb fs h Y)
    | .ior => sx_bit Y st false (fun x y => x ||| y) fun v Y st => K y d rest L (.inl v :: st) cb sb fs h Y
    | .ishl => sx_bit Y st false (fun x y => x <<< (y &&& 31)) fun v Y st => K y d rest L (.inl v :: st) cb sb fs h Y
    | .ishr => sx_bit Y st false (fun x y => x >>> (y &&& 31)) fun v Y st => K y d rest L (.inl v :: st) cb sb fs h Y
    | .iushr => sx_bit Y st false (fun x y => (x.toUInt32 >>> (y.toUInt32 &&& Int32.toUInt32 31)).toInt32) fun v Y st => K y d rest L (.inl v :: st) cb sb fs h Y
    | .ineg => sx_un Y st (fun x => -x) fun v Y st => K y d rest L (.inl v :: st) cb sb fs h Y
    | .i2b => sx_un Y st (fun x => x.toInt8.toInt32) fun v Y st => K y d rest L (.inl v :: st) cb sb fs h Y
    | .dup => sx_c1 st fun v st => K y d rest L (v :: v :: st) cb sb fs h Y
    | .dup2 => sx_c1 st fun v st => sx_c1 st fun w st => K y d rest L (v :: w :: v :: w :: st) cb sb fs h Y
    | .pop => sx_c1 st fun _ st => K y d rest L st cb sb fs h Y
    | .ifCond c _ => sx_i1 st fun z st => sx_br c Y z (.inl (.ofNat 0)) (fun Y => K y d ((sx_full y).drop (mj_hd x.2.2.1)) L st cb sb fs h Y) (fun Y => K y d rest L st cb sb fs h Y)
    | .if_icmp c _ => sx_i1 st fun v st => sx_i1 st fun z st => sx_br c Y z v (fun Y => K y d ((sx_full y).drop (mj_hd x.2.2.1)) L st cb sb fs h Y) (fun Y => K y d rest L st cb sb fs h Y)
    | .ifnull _ => sx_r1 st fun z st => match z with
      | none => K y d ((sx_full y).drop (mj_hd x.2.2.1)) L st cb sb fs h Y
      | some _ => K y d rest L st cb sb fs h Y
    | .ifnonnull _ => sx_r1 st fun z st => match z with
      | some _ => K y d ((sx_full y).drop (mj_hd x.2.2.1)) L st cb sb fs h Y
      | none => K y d rest L st cb sb fs h Y
    | .goto _ => K y d ((sx_full y).drop (mj_hd x.2.2.1)) L st cb sb fs h Y
    | .getfield _ => !x.2.2.1.isEmpty && (Nat.blt (mj_hd x.2.2.1) 49 && sx_get (mj_hd x.2.2.1) (mj_h1 x.2.2.1) st h fun st => K y d rest L st cb sb fs h Y)
    | .putfield _ => !x.2.2.1.isEmpty && sx_put (mj_hd x.2.2.1) (mj_h1 x.2.2.1) Y st h fun st h => K y d rest L st cb sb fs h Y
    | .iaload => (sx_ix Y st h fun _ t k c Y st => cond (Nat.beq (Nat.mod t 1000) 100) (K y d rest L (.inl (sx_g c.2.2.1 k) :: st) cb sb fs h Y) false)
    | .baload => sx_ix Y st h fun _ t k c Y st => cond (Nat.beq (Nat.mod t 1000) 101 || Nat.beq (Nat.mod t 1000) 102) (K y d rest L (.inl (sx_g c.2.2.1 k) :: st) cb sb fs h Y) false
    | .laload => sx_ix Y st h fun _ t k c Y st => cond (Nat.beq (Nat.mod t 1000) 103) (K y d rest L (.inr (.inl (sx_g c.2.2.2.1 k)) :: st) cb sb fs h Y) false
    | .aaload => sx_ix Y st h fun _ t k c Y st => cond (Nat.beq (Nat.mod t 1000) (100 + mj_hd x.2.2.1)) (K y d rest L (.inr (.inr (sx_g c.2.2.2.2 k)) :: st) cb sb fs h Y) false
    | .iastore => sx_i1 st fun z st => sx_ix Y st h fun i t k _ Y st => cond (Nat.beq (Nat.mod t 1000) 100 && Nat.blt t 900000) (sx_p0 h i k z fun h => K y d rest L st cb sb fs h Y) false
    | .bastore => sx_i1 st fun z st => sx_ix Y st h fun i t k _ Y st => cond (Nat.blt t 900000) (cond (Nat.beq (Nat.mod t 1000) 101) (sx_iv Y z fun a b => cond (sx_eq a b) (sx_fi (mj_nb a) fun z => sx_p0 h i k (.inl z) fun h => K y d rest L st cb sb fs h Y) (sx_ff Y fun z Y => sx_p0 h i k z fun h => K y d rest L st cb sb fs h Y)) (cond (Nat.beq (Nat.mod t 1000) 102 && sx_tf Y z) (sx_p0 h i k z fun h => K y d rest L st cb sb fs h Y) false)) false
    | .lastore => sx_l1 st fun z st => sx_ix Y st h fun i t k _ Y st => cond (Nat.beq (Nat.mod t 1000) 103 && Nat.blt t 900000) (sx_p1 h i k z fun h => K y d rest L st cb sb fs h Y) false
    | .aastore => sx_r1 st fun z st => sx_ix Y st h fun i t k _ Y st => cond (Nat.beq (Nat.mod t 1000) (100 + mj_hd x.2.2.1) && Nat.blt t 900000) (match z with
      | none => sx_p2 h i k none fun h => K y d rest L st cb sb fs h Y
      | some b => sx_cl h b fun tb _ _ _ _ => cond (Nat.beq (mj_hd x.2.2.1) 6 && Nat.beq (Nat.mod tb 1000) 7) (sx_p2 h i k (some b) fun h => K y d rest L st cb sb fs h Y) false) false
    | .tableswitch _ lo hi _ => sx_i1 st fun z st => sx_iv Y z fun a b => (cond (sx_le lo a) true (K y d ((sx_full y).drop (mj_hd x.2.2.1)) L st cb sb fs h (sx_rf1 .lt Y z a b lo lo)) && cond (sx_le b hi) true (K y d ((sx_full y).drop (mj_hd x.2.2.1)) L st cb sb fs h (sx_rf1 .gt Y z a b hi hi))) && sx_swt Y a b (fun t Y => K y d ((sx_full y).drop t) L st cb sb fs h Y) z lo (x.2.2.1.drop 1)
    | .arraylength => (sx_a1 st fun i st => sx_cl h i fun t n _ _ _ => cond (Nat.ble 100 (Nat.mod t 1000) && (Nat.blt (Nat.mod t 1000) 107 && Nat.ble n 4096)) (K y d rest L (.inl (.inl (.ofNat n)) :: st) cb sb fs h Y) false)
    | .newarray _ => sx_i1 st fun z st => sx_kn Y z fun z => cond (sx_le (.ofNat 0) z && (Nat.ble z.toNat 4096 && (Nat.ble 1 cb && (Nat.ble z.toNat sb && Nat.beq (Nat.mod (sz_rt h.1) 1000) (100 + mj_hd x.2.2.1))))) (sx_nw h (sz_rt h.1) z.toNat fun i h => K y d rest L (.inr (.inr (some i)) :: st) (cb - 1) (sb - z.toNat) fs h Y) false
    | .anewarray _ => sx_i1 st fun z st => sx_kn Y z fun z => cond (sx_le (.ofNat 0) z && (Nat.ble z.toNat 4096 && (Nat.ble 1 cb && (Nat.ble z.toNat sb && Nat.beq (Nat.mod (sz_rt h.1) 1000) (100 + mj_hd x.2.2.1))))) (sx_nw h (sz_rt h.1) z.toNat fun i h => K y d rest L (.inr (.inr (some i)) :: st) (cb - 1) (sb - z.toNat) fs h Y) false
    | .multianewarray _ _ => sx_i1 st fun z st => sx_i1 st fun v st => sx_kn Y z fun z => sx_kn Y v fun v => cond (sx_le (.ofNat 0) z && (sx_le (.ofNat 0) v && (Nat.ble z.toNat 1000 && (Nat.ble v.toNat 1000 && (Nat.ble (1 + v.toNat) cb && (Nat.ble (v.toNat + v.toNat * z.toNat) sb && (Nat.beq (Nat.mod (sz_rt h.1) 1000) 104 && Nat.beq (Nat.mod (sz_rt (h.1 + 1)) 1000) 100))))))) (sx_nw h (sz_rt h.1) v.toNat fun i h2 => sx_rws (sz_rt (h.1 + 1)) z.toNat v.toNat h2 fun h => sx_cl h i fun t n a b c => sx_rfs (i + 1) v.toNat c fun c => sx_pt h i (t, n, a, b, c) fun h => K y d rest L (.inr (.inr (some i)) :: st) (cb - (1 + v.toNat)) (sb - (v.toNat + v.toNat * z.toNat)) fs h Y) false
    | .new _ => cond (!x.2.2.1.isEmpty && (Nat.ble 1 cb && (Nat.ble (mj_h1 x.2.2.1) sb && Nat.blt (mj_hd x.2.2.1) 90))) (sx_nw h (1001 + mj_hd x.2.2.1) 0 fun i h => K y d rest L (.inr (.inr (some i)) :: st) (cb - 1) (sb - mj_h1 x.2.2.1) fs h Y) false
    | .invokevirtual _ => !x.2.2.1.isEmpty && sx_pop (mj_h1 x.2.2.1) [] st fun As st => sx_a1 st fun a st => sx_cl h a fun t _ _ _ _ => cond (Nat.beq (Nat.mod t 1000) (mj_h2 x.2.2.1 + 1)) (sx_call K y d rest L st cb sb fs h Y (mj_hd x.2.2.1) (.inr (.inr (some a)) :: As)) false
    | .invokestatic _ => match x.2.2.1 with
      | [] => false
      | [f, _] => sx_lib f Y st h fun st h => K y d rest L st cb sb fs h Y
      | _ => sx_pop (mj_h1 x.2.2.1) [] st fun As st => sx_call K y d rest L st cb sb fs h Y (mj_hd x.2.2.1) As
    | .invokespecial _ => match x.2.2.1 with
      | [] => sx_a1 st fun _ st => cond (Nat.ble (sx_cat st) 8) (K y d rest L st cb sb fs h Y) false
      | f :: _ => sx_pop (mj_h1 x.2.2.1) [] st fun As st => sx_a1 st fun a st => sx_cl h a fun t _ _ _ _ => cond (Nat.beq (Nat.mod t 1000) (mj_h2 x.2.2.1 + 1)) (sx_call K y d rest L st cb sb fs h Y f (.inr (.inr (some a)) :: As)) false
    | .ireturn => sx_i1 st fun z st => st.isEmpty && ((cond (sx_eq x.2.2.2 (.ofNat 1)) (sx_tf Y z) true) && sx_back K fs h Y (some (.inl z)))
    | .return_ => st.isEmpty && sx_back K fs h Y none
    | _ => false
noncomputable def sz_ex (n : Nat) : sx_K := Nat.rec (motive := fun _ => sx_K) sz_fin (fun _ ih => sz_st ih) n
set_option maxHeartbeats 4000000 in
theorem sz_st_s {q : Nat → Nat} {K : sx_K} (hK : sz_ks q K) : sz_ks q (sz_st K) := by
  intro y d rest L st cb sb fs h Y hk w L' st' G M Q Z hz hL hS hF hH hY
  cases rest with
  | nil => cases hk
  | cons x rest =>
    obtain ⟨ins, pc, aux, imm⟩ := x
    have go : ∀ {w1 : sx_w} {rest1 : List mj_E} {L1 : sx_L} {L1' : mj_L} {st1 : List sx_V} {st1' : List mj_V} {cb1 sb1 : Nat} {h1 : sx_H} {Y1 : sx_Y} {G1 : mj_G} {M1 : mj_M}, sx_up w w1 → K y d rest1 L1 st1 cb1 sb1 fs h1 Y1 = true → sx_RL w1 L1 L1' → sx_RS w1 st1 st1' → sx_RH w1 h1 G1 M1 → sx_RY w1 Y1 → Z rest1 L1' st1' G1 M1 cb1 sb1 := fun u k1 k2 k3 k4 k5 => hK _ _ _ _ _ _ _ _ _ _ k1 _ _ _ _ _ Q Z hz k2 k3 (hF.up u) k4 k5
    cases ins
    case iload_n k =>
      have hk : (sx_ldi L k.val fun v => K y d rest L (.inl v :: st) cb sb fs h Y) = true := hk
      refine hz.1 _ _ _ _ _ _ _ ?_
      obtain ⟨x, z, h1, h2, hk⟩ := sx_ldi_s hk hL
      show mj_ldi L' k.val (fun v => Z rest L' (v :: st') G M cb sb)
      unfold mj_ldi
      rw [h1]
      exact go sx_up.rf hk hL (hS.c h2.v) hH hY
    case iload k =>
      have hk : (sx_ldi L k fun v => K y d rest L (.inl v :: st) cb sb fs h Y) = true := hk
      refine hz.1 _ _ _ _ _ _ _ ?_
      obtain ⟨x, z, h1, h2, hk⟩ := sx_ldi_s hk hL
      show mj_ldi L' k (fun v => Z rest L' (v :: st') G M cb sb)
      unfold mj_ldi
      rw [h1]
      exact go sx_up.rf hk hL (hS.c h2.v) hH hY
    case lload_n k =>
      have hk : (sx_ldl L k.val fun v => K y d rest L (.inr (.inl v) :: st) cb sb fs h Y) = true := hk
      refine hz.1 _ _ _ _ _ _ _ ?_
      obtain ⟨x, h1, hk⟩ := sx_ldl_s hk hL
      show mj_ldl L' k.val (fun v => Z rest L' (v :: st') G M cb sb)
      unfold mj_ldl
      rw [h1]
      exact go sx_up.rf hk hL (hS.c sx_RV.l) hH hY
    case lload k =>
      have hk : (sx_ldl L k fun v => K y d rest L (.inr (.inl v) :: st) cb sb fs h Y) = true := hk
      refine hz.1 _ _ _ _ _ _ _ ?_
      obtain ⟨x, h1, hk⟩ := sx_ldl_s hk hL
      show mj_ldl L' k (fun v => Z rest L' (v :: st') G M cb sb)
      unfold mj_ldl
      rw [h1]
      exact go sx_up.rf hk hL (hS.c sx_RV.l) hH hY
    case aload_n k =>
      have hk : (sx_lda L k.val fun v => K y d rest L (.inr (.inr v) :: st) cb sb fs h Y) = true := hk
      refine hz.1 _ _ _ _ _ _ _ ?_
      obtain ⟨x, z, h1, h2, hk⟩ := sx_lda_s hk hL
      show mj_lda L' k.val (fun v => Z rest L' (v :: st') G M cb sb)
      unfold mj_lda
      rw [h1]
      exact go sx_up.rf hk hL (hS.c h2.v) hH hY
    case aload k =>
      have hk : (sx_lda L k fun v => K y d rest L (.inr (.inr v) :: st) cb sb fs h Y) = true := hk
      refine hz.1 _ _ _ _ _ _ _ ?_
      obtain ⟨x, z, h1, h2, hk⟩ := sx_lda_s hk hL
      show mj_lda L' k (fun v => Z rest L' (v :: st') G M cb sb)
      unfold mj_lda
      rw [h1]
      exact go sx_up.rf hk hL (hS.c h2.v) hH hY
    case istore_n k =>
      have hk : (sx_i1 st fun z st => K y d rest (sx_s1 L k.val (.inl z)) st cb sb fs h Y) = true := hk
      refine hz.1 _ _ _ _ _ _ _ ?_
      obtain ⟨x, t, z, t', rfl, hx, hS, hk⟩ := sx_i1_s hk hS
      exact go sx_up.rf hk (sx_s1_s hL hx.v) hS hH hY
    case istore k =>
      have hk : (sx_i1 st fun z st => K y d rest (sx_s1 L k (.inl z)) st cb sb fs h Y) = true := hk
      refine hz.1 _ _ _ _ _ _ _ ?_
      obtain ⟨x, t, z, t', rfl, hx, hS, hk⟩ := sx_i1_s hk hS
      exact go sx_up.rf hk (sx_s1_s hL hx.v) hS hH hY
    case astore_n k =>
      have hk : (sx_r1 st fun z st => K y d rest (sx_s1 L k.val (.inr (.inr z))) st cb sb fs h Y) = true := hk
      refine hz.1 _ _ _ _ _ _ _ ?_
      obtain ⟨x, t, z, t', rfl, hx, hS, hk⟩ := sx_r1_s hk hS
      exact go sx_up.rf hk (sx_s1_s hL hx.v) hS hH hY
    case astore k =>
      have hk : (sx_r1 st fun z st => K y d rest (sx_s1 L k (.inr (.inr z))) st cb sb fs h Y) = true := hk
      refine hz.1 _ _ _ _ _ _ _ ?_
      obtain ⟨x, t, z, t', rfl, hx, hS, hk⟩ := sx_r1_s hk hS
      exact go sx_up.rf hk (sx_s1_s hL hx.v) hS hH hY
    case iinc k c =>
      have hk : (sx_ldi L k fun v => sx_iv Y v fun lo hi => sx_ai Y (lo + c) (hi + c) (fun v Y => K y d rest (sx_s1 L k (.inl v)) st cb sb fs h Y) false) = true := hk
      refine hz.1 _ _ _ _ _ _ _ ?_
      obtain ⟨x, z, h1, h2, hk⟩ := sx_ldi_s hk hL
      obtain ⟨lo, hi, hk, h3, h4⟩ := sx_iv_s hk hY h2
      show mj_ldi L' k (fun v => mj_i1 [v] fun z _ => (mj_in (z + c) ∧ Z rest (mj_s1 L' k (.inl (z + c))) st' G M cb sb) ∨ ∀ q, mj_in q → q = (Int32.ofInt z + Int32.ofInt c).toInt → Z rest (mj_s1 L' k (.inl q)) st' G M cb sb)
      unfold mj_ldi
      rw [h1]
      rcases sx_ai_s (z := z + c) hk hY (by omega) (by omega) with ⟨u0, w', x', Y', u1, u2, u3, u4⟩ | hk
      · exact Or.inl ⟨u0, go u1.1 u4 (sx_s1_s (hL.up u1.1) u3.v) (hS.up u1.1) (hH.up u1) u2⟩
      · cases hk
    case iconst z =>
      have hk : (K y d rest L (.inl (.inl z) :: st) cb sb fs h Y) = true := hk
      refine hz.1 _ _ _ _ _ _ _ ?_
      exact go sx_up.rf hk hL (hS.c (sx_RI.v rfl)) hH hY
    case bipush z =>
      have hk : (K y d rest L (.inl (.inl z) :: st) cb sb fs h Y) = true := hk
      refine hz.1 _ _ _ _ _ _ _ ?_
      exact go sx_up.rf hk hL (hS.c (sx_RI.v rfl)) hH hY
    case sipush z =>
      have hk : (K y d rest L (.inl (.inl z) :: st) cb sb fs h Y) = true := hk
      refine hz.1 _ _ _ _ _ _ _ ?_
      exact go sx_up.rf hk hL (hS.c (sx_RI.v rfl)) hH hY
    case ldc k =>
      have hk : (K y d rest L (.inl (.inl imm) :: st) cb sb fs h Y) = true := hk
      refine hz.1 _ _ _ _ _ _ _ ?_
      exact go sx_up.rf hk hL (hS.c (sx_RI.v rfl)) hH hY
    case ldc2_w k =>
      have hk : (K y d rest L (.inr (.inl (Int64.ofInt imm)) :: st) cb sb fs h Y) = true := hk
      refine hz.1 _ _ _ _ _ _ _ ?_
      exact go sx_up.rf hk hL (hS.c sx_RV.l) hH hY
    case lconst z =>
      have hk : (K y d rest L (.inr (.inl (Int64.ofNat z.val)) :: st) cb sb fs h Y) = true := hk
      refine hz.1 _ _ _ _ _ _ _ ?_
      exact go sx_up.rf hk hL (hS.c sx_RV.l) hH hY
    case aconst_null =>
      have hk : (K y d rest L (.inr (.inr none) :: st) cb sb fs h Y) = true := hk
      refine hz.1 _ _ _ _ _ _ _ ?_
      exact go sx_up.rf hk hL (hS.c (sx_RO.v (x := none) rfl)) hH hY
    case iadd =>
      have hk : (sx_op2 Y st sx_fadd fun v Y st => K y d rest L (.inl v :: st) cb sb fs h Y) = true := hk
      refine hz.1 _ _ _ _ _ _ _ ?_
      exact sx_op2_s (k' := fun st => Z rest L' st G M cb sb) hk hS hY sx_fadd_s (fun w' x z Y' t t' u1 u2 u3 u4 u5 => go u1.1 u5 (hL.up u1.1) (u4.c u3.v) (hH.up u1) u2)
    case isub =>
      have hk : (sx_op2 Y st sx_fsub fun v Y st => K y d rest L (.inl v :: st) cb sb fs h Y) = true := hk
      refine hz.1 _ _ _ _ _ _ _ ?_
      exact sx_op2_s (k' := fun st => Z rest L' st G M cb sb) hk hS hY sx_fsub_s (fun w' x z Y' t t' u1 u2 u3 u4 u5 => go u1.1 u5 (hL.up u1.1) (u4.c u3.v) (hH.up u1) u2)
    case imul =>
      have hk : (sx_op2 Y st sx_fmul fun v Y st => K y d rest L (.inl v :: st) cb sb fs h Y) = true := hk
      refine hz.1 _ _ _ _ _ _ _ ?_
      exact sx_op2_s (k' := fun st => Z rest L' st G M cb sb) hk hS hY sx_fmul_s (fun w' x z Y' t t' u1 u2 u3 u4 u5 => go u1.1 u5 (hL.up u1.1) (u4.c u3.v) (hH.up u1) u2)
    case iand =>
      have hk : (sx_bit Y st true (fun x y => x &&& y) fun v Y st => K y d rest L (.inl v :: st) cb sb fs h Y) = true := hk
      refine hz.1 _ _ _ _ _ _ _ ?_
      exact sx_bit_s (k' := fun st => Z rest L' st G M cb sb) hk hS hY (fun _ => sx_and_in) (fun w' x z Y' t t' u1 u2 u3 u4 u5 => go u1.1 u5 (hL.up u1.1) (u4.c u3.v) (hH.up u1) u2)
    case ior =>
      have hk : (sx_bit Y st false (fun x y => x ||| y) fun v Y st => K y d rest L (.inl v :: st) cb sb fs h Y) = true := hk
      refine hz.1 _ _ _ _ _ _ _ ?_
      exact sx_bit_s (k' := fun st => Z rest L' st G M cb sb) hk hS hY (fun q => by cases q) (fun w' x z Y' t t' u1 u2 u3 u4 u5 => go u1.1 u5 (hL.up u1.1) (u4.c u3.v) (hH.up u1) u2)
    case ishl =>
      have hk : (sx_bit Y st false (fun x y => x <<< (y &&& 31)) fun v Y st => K y d rest L (.inl v :: st) cb sb fs h Y) = true := hk
      refine hz.1 _ _ _ _ _ _ _ ?_
      exact sx_bit_s (k' := fun st => Z rest L' st G M cb sb) hk hS hY (fun q => by cases q) (fun w' x z Y' t t' u1 u2 u3 u4 u5 => go u1.1 u5 (hL.up u1.1) (u4.c u3.v) (hH.up u1) u2)
    case ishr =>
      have hk : (sx_bit Y st false (fun x y => x >>> (y &&& 31)) fun v Y st => K y d rest L (.inl v :: st) cb sb fs h Y) = true := hk
      refine hz.1 _ _ _ _ _ _ _ ?_
      exact sx_bit_s (k' := fun st => Z rest L' st G M cb sb) hk hS hY (fun q => by cases q) (fun w' x z Y' t t' u1 u2 u3 u4 u5 => go u1.1 u5 (hL.up u1.1) (u4.c u3.v) (hH.up u1) u2)
    case iushr =>
      have hk : (sx_bit Y st false (fun x y => (x.toUInt32 >>> (y.toUInt32 &&& Int32.toUInt32 31)).toInt32) fun v Y st => K y d rest L (.inl v :: st) cb sb fs h Y) = true := hk
      refine hz.1 _ _ _ _ _ _ _ ?_
      exact sx_bit_s (k' := fun st => Z rest L' st G M cb sb) hk hS hY (fun q => by cases q) (fun w' x z Y' t t' u1 u2 u3 u4 u5 => go u1.1 u5 (hL.up u1.1) (u4.c u3.v) (hH.up u1) u2)
    case ineg =>
      have hk : (sx_un Y st (fun x => -x) fun v Y st => K y d rest L (.inl v :: st) cb sb fs h Y) = true := hk
      refine hz.1 _ _ _ _ _ _ _ ?_
      exact sx_un_s (k' := fun st => Z rest L' st G M cb sb) hk hS hY (fun w' x z Y' t t' u1 u2 u3 u4 u5 => go u1.1 u5 (hL.up u1.1) (u4.c u3.v) (hH.up u1) u2)
    case i2b =>
      have hk : (sx_un Y st (fun x => x.toInt8.toInt32) fun v Y st => K y d rest L (.inl v :: st) cb sb fs h Y) = true := hk
      refine hz.1 _ _ _ _ _ _ _ ?_
      exact sx_un_s (k' := fun st => Z rest L' st G M cb sb) hk hS hY (fun w' x z Y' t t' u1 u2 u3 u4 u5 => go u1.1 u5 (hL.up u1.1) (u4.c u3.v) (hH.up u1) u2)
    case dup =>
      have hk : (sx_c1 st fun v st => K y d rest L (v :: v :: st) cb sb fs h Y) = true := hk
      refine hz.1 _ _ _ _ _ _ _ ?_
      obtain ⟨x, t, v, t', rfl, hx, hv, hS, hk⟩ := sx_c1_s hk hS
      exact sx_c1_i (k := fun v st => Z rest L' (v :: v :: st) G M cb sb) hv (go sx_up.rf hk hL ((hS.c hx).c hx) hH hY)
    case dup2 =>
      have hk : (sx_c1 st fun v st => sx_c1 st fun w st => K y d rest L (v :: w :: v :: w :: st) cb sb fs h Y) = true := hk
      refine hz.1 _ _ _ _ _ _ _ ?_
      obtain ⟨x, t, v, t', rfl, hx, hv, hS, hk⟩ := sx_c1_s hk hS
      obtain ⟨x2, t, v2, t', rfl, hx2, hv2, hS, hk⟩ := sx_c1_s hk hS
      exact sx_c1_i (k := fun v st => mj_c1 st fun w st => Z rest L' (v :: w :: v :: w :: st) G M cb sb) hv (sx_c1_i (k := fun u st => Z rest L' (v :: u :: v :: u :: st) G M cb sb) hv2 (go sx_up.rf hk hL ((((hS.c hx2).c hx).c hx2).c hx) hH hY))
    case pop =>
      have hk : (sx_c1 st fun _ st => K y d rest L st cb sb fs h Y) = true := hk
      refine hz.1 _ _ _ _ _ _ _ ?_
      obtain ⟨x, t, v, t', rfl, hx, hv, hS, hk⟩ := sx_c1_s hk hS
      exact sx_c1_i (k := fun _ st => Z rest L' st G M cb sb) hv (go sx_up.rf hk hL hS hH hY)
    case ifCond c o =>
      have hk : (sx_i1 st fun z st => sx_br c Y z (.inl (.ofNat 0)) (fun Y => K y d ((sx_full y).drop (mj_hd aux)) L st cb sb fs h Y) (fun Y => K y d rest L st cb sb fs h Y)) = true := hk
      refine hz.1 _ _ _ _ _ _ _ ?_
      obtain ⟨x, t, z, t', rfl, hx, hS, hk⟩ := sx_i1_s hk hS
      exact sx_br_s hk hY hx (zy := 0) rfl (fun Y' u1 u2 => go sx_up.rf u2 hL hS hH u1) (fun Y' u1 u2 => go sx_up.rf u2 hL hS hH u1)
    case if_icmp c o =>
      have hk : (sx_i1 st fun v st => sx_i1 st fun z st => sx_br c Y z v (fun Y => K y d ((sx_full y).drop (mj_hd aux)) L st cb sb fs h Y) (fun Y => K y d rest L st cb sb fs h Y)) = true := hk
      refine hz.1 _ _ _ _ _ _ _ ?_
      obtain ⟨v, t, zv, t', rfl, hv, hS, hk⟩ := sx_i1_s hk hS
      obtain ⟨x, t, z, t', rfl, hx, hS, hk⟩ := sx_i1_s hk hS
      exact sx_br_s hk hY hx hv (fun Y' u1 u2 => go sx_up.rf u2 hL hS hH u1) (fun Y' u1 u2 => go sx_up.rf u2 hL hS hH u1)
    case ifnull o =>
      have hk : (sx_r1 st fun z st => match z with
            | none => K y d ((sx_full y).drop (mj_hd aux)) L st cb sb fs h Y
            | some _ => K y d rest L st cb sb fs h Y) = true := hk
      refine hz.1 _ _ _ _ _ _ _ ?_
      obtain ⟨x, t, z, t', rfl, hx, hS2, hk⟩ := sx_r1_s hk hS
      cases x with
      | none =>
        obtain rfl : z = none := hx
        exact ⟨fun _ => go sx_up.rf hk hL hS2 hH hY, fun q => absurd rfl q⟩
      | some i =>
        obtain ⟨-, rfl⟩ := hx
        exact ⟨(fun q => by cases q), fun _ => go sx_up.rf hk hL hS2 hH hY⟩
    case ifnonnull o =>
      have hk : (sx_r1 st fun z st => match z with
            | some _ => K y d ((sx_full y).drop (mj_hd aux)) L st cb sb fs h Y
            | none => K y d rest L st cb sb fs h Y) = true := hk
      refine hz.1 _ _ _ _ _ _ _ ?_
      obtain ⟨x, t, z, t', rfl, hx, hS2, hk⟩ := sx_r1_s hk hS
      cases x with
      | none =>
        obtain rfl : z = none := hx
        exact ⟨fun q => absurd rfl q, fun _ => go sx_up.rf hk hL hS2 hH hY⟩
      | some i =>
        obtain ⟨-, rfl⟩ := hx
        exact ⟨fun _ => go sx_up.rf hk hL hS2 hH hY, fun q => absurd (fun e => by cases e) q⟩
    case goto o =>
      have hk : (K y d ((sx_full y).drop (mj_hd aux)) L st cb sb fs h Y) = true := hk
      refine hz.1 _ _ _ _ _ _ _ ?_
      exact go sx_up.rf hk hL hS hH hY
    case getfield k =>
      have hk : (!aux.isEmpty && (Nat.blt (mj_hd aux) 49 && sx_get (mj_hd aux) (mj_h1 aux) st h fun st => K y d rest L st cb sb fs h Y)) = true := hk
      refine hz.1 _ _ _ _ _ _ _ ?_
      obtain ⟨h0, hk⟩ := sx_nd hk
      have hne : aux ≠ [] := fun q => by rw [q] at h0; cases h0
      obtain ⟨h49, hk⟩ := sx_nd hk
      have n49 := sx_blt h49
      exact ⟨hne, fun e => absurd (show mj_hd aux = 49 from e) (by omega), fun _ => sx_get_s (k' := fun st => Z rest L' st G M cb sb) hk hS hH (fun t t' u1 u2 => go sx_up.rf u1 hL u2 hH hY)⟩
    case putfield k =>
      have hk : (!aux.isEmpty && sx_put (mj_hd aux) (mj_h1 aux) Y st h fun st h => K y d rest L st cb sb fs h Y) = true := hk
      refine hz.1 _ _ _ _ _ _ _ ?_
      obtain ⟨h0, hk⟩ := sx_nd hk
      have hne : aux ≠ [] := fun q => by rw [q] at h0; cases h0
      exact ⟨hne, sx_put_s (k' := fun st M => Z rest L' st G M cb sb) hk hS hH hY (fun t t' h' M' u1 u2 u3 => go sx_up.rf u1 hL u2 u3 hY)⟩
    case iaload =>
      have hk : (sx_ix Y st h fun _ t k c Y st => cond (Nat.beq (Nat.mod t 1000) 100) (K y d rest L (.inl (sx_g c.2.2.1 k) :: st) cb sb fs h Y) false) = true := hk
      refine hz.1 _ _ _ _ _ _ _ ?_
      obtain ⟨i, z, Y', t, t', rfl, hi, hY', hS, z0, z1, z2, hk⟩ := sx_ix_s hk hS hY
      obtain ⟨c1, c2, c3⟩ := hH.2.2.1 i (by rw [hH.1]; exact hi)
      obtain ⟨d1, d2, d3⟩ := c3 _ z2
      obtain ⟨ht, hk⟩ := sx_cd hk
      exact ⟨_, _, c1, sx_beq ht, z0, z1, go sx_up.rf hk hL (hS.c d1.v) hH hY'⟩
    case baload =>
      have hk : (sx_ix Y st h fun _ t k c Y st => cond (Nat.beq (Nat.mod t 1000) 101 || Nat.beq (Nat.mod t 1000) 102) (K y d rest L (.inl (sx_g c.2.2.1 k) :: st) cb sb fs h Y) false) = true := hk
      refine hz.1 _ _ _ _ _ _ _ ?_
      obtain ⟨i, z, Y', t, t', rfl, hi, hY', hS, z0, z1, z2, hk⟩ := sx_ix_s hk hS hY
      obtain ⟨c1, c2, c3⟩ := hH.2.2.1 i (by rw [hH.1]; exact hi)
      obtain ⟨d1, d2, d3⟩ := c3 _ z2
      obtain ⟨ht, hk⟩ := sx_cd hk
      rw [Bool.or_eq_true] at ht
      rcases ht with ht | ht
      · exact Or.inl ⟨_, _, c1, sx_beq ht, z0, z1, go sx_up.rf hk hL (hS.c d1.v) hH hY'⟩
      · exact Or.inr ⟨_, _, c1, sx_beq ht, z0, z1, go sx_up.rf hk hL (hS.c d1.v) hH hY'⟩
    case laload =>
      have hk : (sx_ix Y st h fun _ t k c Y st => cond (Nat.beq (Nat.mod t 1000) 103) (K y d rest L (.inr (.inl (sx_g c.2.2.2.1 k)) :: st) cb sb fs h Y) false) = true := hk
      refine hz.1 _ _ _ _ _ _ _ ?_
      obtain ⟨i, z, Y', t, t', rfl, hi, hY', hS, z0, z1, z2, hk⟩ := sx_ix_s hk hS hY
      obtain ⟨c1, c2, c3⟩ := hH.2.2.1 i (by rw [hH.1]; exact hi)
      obtain ⟨d1, d2, d3⟩ := c3 _ z2
      obtain ⟨ht, hk⟩ := sx_cd hk
      exact ⟨_, _, c1, sx_beq ht, z0, z1, go sx_up.rf hk hL (hS.c (by rw [← d2]; exact sx_RV.l)) hH hY'⟩
    case aaload =>
      have hk : (sx_ix Y st h fun _ t k c Y st => cond (Nat.beq (Nat.mod t 1000) (100 + mj_hd aux)) (K y d rest L (.inr (.inr (sx_g c.2.2.2.2 k)) :: st) cb sb fs h Y) false) = true := hk
      refine hz.1 _ _ _ _ _ _ _ ?_
      obtain ⟨i, z, Y', t, t', rfl, hi, hY', hS, z0, z1, z2, hk⟩ := sx_ix_s hk hS hY
      obtain ⟨c1, c2, c3⟩ := hH.2.2.1 i (by rw [hH.1]; exact hi)
      obtain ⟨d1, d2, d3⟩ := c3 _ z2
      obtain ⟨ht, hk⟩ := sx_cd hk
      exact ⟨_, _, c1, sx_beq ht, z0, z1, fun b hb => go sx_up.rf hk hL (hS.c (sx_RO.v (hb ▸ d3))) hH hY', fun hb => go sx_up.rf hk hL (hS.c (sx_RO.v (hb ▸ d3))) hH hY'⟩
    case iastore =>
      have hk : (sx_i1 st fun z st => sx_ix Y st h fun i t k _ Y st => cond (Nat.beq (Nat.mod t 1000) 100 && Nat.blt t 900000) (sx_p0 h i k z fun h => K y d rest L st cb sb fs h Y) false) = true := hk
      refine hz.1 _ _ _ _ _ _ _ ?_
      obtain ⟨x, t, zx, t', rfl, hx, hS, hk⟩ := sx_i1_s hk hS
      obtain ⟨i, z, Y', t, t', rfl, hi, hY', hS, z0, z1, z2, hk⟩ := sx_ix_s hk hS hY
      obtain ⟨c1, c2, c3⟩ := hH.2.2.1 i (by rw [hH.1]; exact hi)
      obtain ⟨d1, d2, d3⟩ := c3 _ z2
      obtain ⟨ht, hk⟩ := sx_cd hk
      obtain ⟨ht, h9⟩ := sx_nd ht
      obtain ⟨h', u1, u2⟩ := sx_p0_s hk hH hi hx
      exact ⟨_, _, c1, sx_beq ht, sx_blt h9, z0, z1, go sx_up.rf u2 hL hS u1 hY'⟩
    case bastore =>
      have hk : (sx_i1 st fun z st => sx_ix Y st h fun i t k _ Y st => cond (Nat.blt t 900000) (cond (Nat.beq (Nat.mod t 1000) 101) (sx_iv Y z fun a b => cond (sx_eq a b) (sx_fi (mj_nb a) fun z => sx_p0 h i k (.inl z) fun h => K y d rest L st cb sb fs h Y) (sx_ff Y fun z Y => sx_p0 h i k z fun h => K y d rest L st cb sb fs h Y)) (cond (Nat.beq (Nat.mod t 1000) 102 && sx_tf Y z) (sx_p0 h i k z fun h => K y d rest L st cb sb fs h Y) false)) false) = true := hk
      refine hz.1 _ _ _ _ _ _ _ ?_
      obtain ⟨x, t, zx, t', rfl, hx, hS, hk⟩ := sx_i1_s hk hS
      obtain ⟨i, z, Y', t, t', rfl, hi, hY', hS, z0, z1, z2, hk⟩ := sx_ix_s hk hS hY
      obtain ⟨c1, c2, c3⟩ := hH.2.2.1 i (by rw [hH.1]; exact hi)
      obtain ⟨d1, d2, d3⟩ := c3 _ z2
      obtain ⟨ht, hk⟩ := sx_cd hk
      cases e1 : Nat.beq (Nat.mod (sx_g h.2 i).1 1000) 101 with
      | true =>
        rw [e1] at hk
        dsimp only [cond_true] at hk
        obtain ⟨a, b, hk, h3, h4⟩ := sx_iv_s hk hY' hx
        cases e2 : sx_eq a b with
        | true =>
          rw [e2] at hk
          dsimp only [cond_true] at hk
          have e2 := sx_eq_iff.mp e2
          rw [sx_fi_eq] at hk
          obtain ⟨h', u1, u2⟩ := sx_p0_s (z := mj_nb zx) hk hH hi (by show mj_nb a = mj_nb zx; rw [show a = zx by omega])
          exact Or.inl ⟨_, _, c1, sx_beq e1, sx_blt ht, z0, z1, go sx_up.rf u2 hL hS u1 hY'⟩
        | false =>
          rw [e2] at hk
          obtain ⟨w', x', Y2, v1, v2, v3, v4⟩ := sx_ff_s (z := mj_nb zx) hk hY' (mj_rng _)
          obtain ⟨h', u1, u2⟩ := sx_p0_s v4 (hH.up v1) (Nat.lt_of_lt_of_le hi v1.1.2.2.1) v3
          rw [v1.1.2.2.2 i hi] at u1
          exact Or.inl ⟨_, _, c1, sx_beq e1, sx_blt ht, z0, z1, go v1.1 u2 (hL.up v1.1) (hS.up v1.1) u1 v2⟩
      | false =>
        rw [e1] at hk
        dsimp only [cond_false] at hk
        obtain ⟨hb, hk⟩ := sx_cd hk
        obtain ⟨hb, hb2⟩ := sx_nd hb
        obtain ⟨h', u1, u2⟩ := sx_p0_s hk hH hi hx
        exact Or.inr ⟨sx_tf_s hb2 hY' hx, _, _, c1, sx_beq hb, sx_blt ht, z0, z1, go sx_up.rf u2 hL hS u1 hY'⟩
    case lastore =>
      have hk : (sx_l1 st fun z st => sx_ix Y st h fun i t k _ Y st => cond (Nat.beq (Nat.mod t 1000) 103 && Nat.blt t 900000) (sx_p1 h i k z fun h => K y d rest L st cb sb fs h Y) false) = true := hk
      refine hz.1 _ _ _ _ _ _ _ ?_
      obtain ⟨x, t, t', rfl, hS, hk⟩ := sx_l1_s hk hS
      obtain ⟨i, z, Y', t, t', rfl, hi, hY', hS, z0, z1, z2, hk⟩ := sx_ix_s hk hS hY
      obtain ⟨c1, c2, c3⟩ := hH.2.2.1 i (by rw [hH.1]; exact hi)
      obtain ⟨d1, d2, d3⟩ := c3 _ z2
      obtain ⟨ht, hk⟩ := sx_cd hk
      obtain ⟨ht, h9⟩ := sx_nd ht
      obtain ⟨h', u1, u2⟩ := sx_p1_s hk hH hi
      exact ⟨_, _, c1, sx_beq ht, sx_blt h9, z0, z1, go sx_up.rf u2 hL hS u1 hY'⟩
    case aastore =>
      have hk : (sx_r1 st fun z st => sx_ix Y st h fun i t k _ Y st => cond (Nat.beq (Nat.mod t 1000) (100 + mj_hd aux) && Nat.blt t 900000) (match z with
            | none => sx_p2 h i k none fun h => K y d rest L st cb sb fs h Y
            | some b => sx_cl h b fun tb _ _ _ _ => cond (Nat.beq (mj_hd aux) 6 && Nat.beq (Nat.mod tb 1000) 7) (sx_p2 h i k (some b) fun h => K y d rest L st cb sb fs h Y) false) false) = true := hk
      refine hz.1 _ _ _ _ _ _ _ ?_
      obtain ⟨x, t, r, t', rfl, hx, hS, hk⟩ := sx_r1_s hk hS
      obtain ⟨i, z, Y', t, t', rfl, hi, hY', hS, z0, z1, z2, hk⟩ := sx_ix_s hk hS hY
      obtain ⟨c1, c2, c3⟩ := hH.2.2.1 i (by rw [hH.1]; exact hi)
      obtain ⟨d1, d2, d3⟩ := c3 _ z2
      obtain ⟨ht, hk⟩ := sx_cd hk
      obtain ⟨ht, h9⟩ := sx_nd ht
      have hS2 := hS
      cases x with
      | none =>
        obtain ⟨h', u1, u2⟩ := sx_p2_s hk hH hi hx
        obtain rfl : r = none := hx
        exact ⟨_, _, c1, sx_beq ht, sx_blt h9, z0, z1, (fun b hb => by cases hb), go sx_up.rf u2 hL hS2 u1 hY'⟩
      | some b =>
        have hk := (sx_cl_eq _ _ _).symm.trans hk
        obtain ⟨hb, hk⟩ := sx_cd hk
        obtain ⟨hb, hb2⟩ := sx_nd hb
        obtain ⟨h', u1, u2⟩ := sx_p2_s hk hH hi hx
        obtain ⟨hbl, rfl⟩ := hx
        obtain ⟨e1, e2, e3⟩ := hH.2.2.1 b (by rw [hH.1]; exact hbl)
        exact ⟨_, _, c1, sx_beq ht, sx_blt h9, z0, z1, (fun b' hb' => by cases hb'; exact Or.inl ⟨sx_beq hb, _, _, e1, sx_beq hb2, trivial⟩), go sx_up.rf u2 hL hS2 u1 hY'⟩
    case tableswitch df lo hi offs =>
      have hk : (sx_i1 st fun z st => sx_iv Y z fun a b => (cond (sx_le lo a) true (K y d ((sx_full y).drop (mj_hd aux)) L st cb sb fs h (sx_rf1 .lt Y z a b lo lo)) && cond (sx_le b hi) true (K y d ((sx_full y).drop (mj_hd aux)) L st cb sb fs h (sx_rf1 .gt Y z a b hi hi))) && sx_swt Y a b (fun t Y => K y d ((sx_full y).drop t) L st cb sb fs h Y) z lo (aux.drop 1)) = true := hk
      refine hz.1 _ _ _ _ _ _ _ ?_
      obtain ⟨x, t, z, t', rfl, hx, hS, hk⟩ := sx_i1_s hk hS
      obtain ⟨a, b, hk, h1, h2⟩ := sx_iv_s hk hY hx
      obtain ⟨hk, hk3⟩ := sx_nd hk
      obtain ⟨hk1, hk2⟩ := sx_nd hk
      refine ⟨fun q => ?_, sx_swt_s hY hx h1 h2 (fun t Y' u1 u2 => go sx_up.rf u2 hL hS hH u1) _ _ hk3⟩
      rcases q with q | q
      · exact go sx_up.rf (sx_cf hk1 (fun e => by have := sx_le_iff.mp e; omega)) hL hS hH (sx_rf1_s (q := lo) hY hx q h1 h2 (Int.le_refl _) (Int.le_refl _))
      · exact go sx_up.rf (sx_cf hk2 (fun e => by have := sx_le_iff.mp e; omega)) hL hS hH (sx_rf1_s (q := hi) (c := .gt) hY hx q h1 h2 (Int.le_refl _) (Int.le_refl _))
    case arraylength =>
      have hk : (sx_a1 st fun i st => sx_cl h i fun t n _ _ _ => cond (Nat.ble 100 (Nat.mod t 1000) && (Nat.blt (Nat.mod t 1000) 107 && Nat.ble n 4096)) (K y d rest L (.inl (.inl (.ofNat n)) :: st) cb sb fs h Y) false) = true := hk
      refine hz.1 _ _ _ _ _ _ _ ?_
      obtain ⟨i, t, t', rfl, hi, hS, hk⟩ := sx_a1_s hk hS
      rw [sx_cl_eq] at hk
      obtain ⟨hc, hk⟩ := sx_cd hk
      obtain ⟨g1, hc⟩ := sx_nd hc
      obtain ⟨g2, g3⟩ := sx_nd hc
      obtain ⟨c1, c2, c3⟩ := hH.2.2.1 i (by rw [hH.1]; exact hi)
      have g1 : 100 ≤ (sx_g h.2 i).1 % 1000 := sx_ble g1
      have g2 : (sx_g h.2 i).1 % 1000 < 107 := sx_blt g2
      have g3 := sx_ble g3
      exact ⟨_, _, (sx_g h.2 i).1 % 1000 - 100, c1, by omega, by omega, ⟨by omega, by omega⟩, go sx_up.rf hk hL (hS.c (sx_RI.v rfl)) hH hY⟩
    case newarray k =>
      have hk : (sx_i1 st fun z st => sx_kn Y z fun z => cond (sx_le (.ofNat 0) z && (Nat.ble z.toNat 4096 && (Nat.ble 1 cb && (Nat.ble z.toNat sb && Nat.beq (Nat.mod (sz_rt h.1) 1000) (100 + mj_hd aux))))) (sx_nw h (sz_rt h.1) z.toNat fun i h => K y d rest L (.inr (.inr (some i)) :: st) (cb - 1) (sb - z.toNat) fs h Y) false) = true := hk
      refine hz.1 _ _ _ _ _ _ _ ?_
      obtain ⟨x, t, z, t', rfl, hx, hS, hk⟩ := sx_i1_s hk hS
      have hk := sx_kn_s hk hY hx
      obtain ⟨hc, hk⟩ := sx_cd hk
      obtain ⟨g1, hc⟩ := sx_nd hc
      obtain ⟨g2, hc⟩ := sx_nd hc
      obtain ⟨g3, hc⟩ := sx_nd hc
      obtain ⟨g4, g5⟩ := sx_nd hc
      have g1 : 0 ≤ z := sx_le_iff.mp g1
      have g2 := sx_ble g2
      have g5 : sz_rt h.1 % 1000 = 100 + mj_hd aux := sx_beq g5
      refine ⟨g1, by omega, sx_ble g3, sx_ble g4, sz_rt h.1, g5, fun a ha => ?_⟩
      obtain ⟨h', u1, u2⟩ := sx_nw_s hk hH (by omega) ha
      exact go sx_wn_up u2 (hL.up sx_wn_up) ((hS.up sx_wn_up).c sx_wn_top.v) u1 hY.wn
    case anewarray k =>
      have hk : (sx_i1 st fun z st => sx_kn Y z fun z => cond (sx_le (.ofNat 0) z && (Nat.ble z.toNat 4096 && (Nat.ble 1 cb && (Nat.ble z.toNat sb && Nat.beq (Nat.mod (sz_rt h.1) 1000) (100 + mj_hd aux))))) (sx_nw h (sz_rt h.1) z.toNat fun i h => K y d rest L (.inr (.inr (some i)) :: st) (cb - 1) (sb - z.toNat) fs h Y) false) = true := hk
      refine hz.1 _ _ _ _ _ _ _ ?_
      obtain ⟨x, t, z, t', rfl, hx, hS, hk⟩ := sx_i1_s hk hS
      have hk := sx_kn_s hk hY hx
      obtain ⟨hc, hk⟩ := sx_cd hk
      obtain ⟨g1, hc⟩ := sx_nd hc
      obtain ⟨g2, hc⟩ := sx_nd hc
      obtain ⟨g3, hc⟩ := sx_nd hc
      obtain ⟨g4, g5⟩ := sx_nd hc
      have g1 : 0 ≤ z := sx_le_iff.mp g1
      have g2 := sx_ble g2
      have g5 : sz_rt h.1 % 1000 = 100 + mj_hd aux := sx_beq g5
      refine ⟨g1, by omega, sx_ble g3, sx_ble g4, sz_rt h.1, g5, fun a ha => ?_⟩
      obtain ⟨h', u1, u2⟩ := sx_nw_s hk hH (by omega) ha
      exact go sx_wn_up u2 (hL.up sx_wn_up) ((hS.up sx_wn_up).c sx_wn_top.v) u1 hY.wn
    case multianewarray k k2 =>
      have hk : (sx_i1 st fun z st => sx_i1 st fun v st => sx_kn Y z fun z => sx_kn Y v fun v => cond (sx_le (.ofNat 0) z && (sx_le (.ofNat 0) v && (Nat.ble z.toNat 1000 && (Nat.ble v.toNat 1000 && (Nat.ble (1 + v.toNat) cb && (Nat.ble (v.toNat + v.toNat * z.toNat) sb && (Nat.beq (Nat.mod (sz_rt h.1) 1000) 104 && Nat.beq (Nat.mod (sz_rt (h.1 + 1)) 1000) 100))))))) (sx_nw h (sz_rt h.1) v.toNat fun i h2 => sx_rws (sz_rt (h.1 + 1)) z.toNat v.toNat h2 fun h => sx_cl h i fun t n a b c => sx_rfs (i + 1) v.toNat c fun c => sx_pt h i (t, n, a, b, c) fun h => K y d rest L (.inr (.inr (some i)) :: st) (cb - (1 + v.toNat)) (sb - (v.toNat + v.toNat * z.toNat)) fs h Y) false) = true := hk
      refine hz.1 _ _ _ _ _ _ _ ?_
      obtain ⟨x, t, z, t', rfl, hx, hS, hk⟩ := sx_i1_s hk hS
      obtain ⟨v, t, zv, t', rfl, hv, hS, hk⟩ := sx_i1_s hk hS
      have hk := sx_kn_s (sx_kn_s hk hY hx) hY hv
      obtain ⟨hc, hk⟩ := sx_cd hk
      obtain ⟨g1, hc⟩ := sx_nd hc
      obtain ⟨g2, hc⟩ := sx_nd hc
      obtain ⟨g3, hc⟩ := sx_nd hc
      obtain ⟨g4, hc⟩ := sx_nd hc
      obtain ⟨g5, hc⟩ := sx_nd hc
      obtain ⟨g6, hc⟩ := sx_nd hc
      obtain ⟨g7, g8⟩ := sx_nd hc
      have g7 : sz_rt h.1 % 1000 = 104 := sx_beq g7
      have g8 : sz_rt (h.1 + 1) % 1000 = 100 := sx_beq g8
      have g1 : 0 ≤ z := sx_le_iff.mp g1
      have g2 : 0 ≤ zv := sx_le_iff.mp g2
      have g3 := sx_ble g3
      have g4 := sx_ble g4
      refine ⟨g1, by omega, g2, by omega, sx_ble g5, sx_ble g6, sz_rt h.1, sz_rt (h.1 + 1), g7, g8, fun a ha => ?_⟩
      obtain ⟨h', u1, u2⟩ := sz_mul_s (k := fun i h => K y d rest L (.inr (.inr (some i)) :: t) (cb - (1 + zv.toNat)) (sb - (zv.toNat + zv.toNat * z.toNat)) fs h Y) hk hH (by omega) (by omega) ha
      exact go sx_wn_up u2 (hL.up sx_wn_up) ((hS.up sx_wn_up).c (sx_RO.v (by rw [Nat.add_comm 1]; exact sx_wn_top))) u1 hY.wn
    case new k =>
      have hk : (cond (!aux.isEmpty && (Nat.ble 1 cb && (Nat.ble (mj_h1 aux) sb && Nat.blt (mj_hd aux) 90))) (sx_nw h (1001 + mj_hd aux) 0 fun i h => K y d rest L (.inr (.inr (some i)) :: st) (cb - 1) (sb - mj_h1 aux) fs h Y) false) = true := hk
      refine hz.1 _ _ _ _ _ _ _ ?_
      obtain ⟨hc, hk⟩ := sx_cd hk
      obtain ⟨h0, hc⟩ := sx_nd hc
      obtain ⟨g3, hc⟩ := sx_nd hc
      obtain ⟨g4, g5⟩ := sx_nd hc
      have g5 := sx_blt g5
      have hne : aux ≠ [] := fun q => by rw [q] at h0; cases h0
      refine ⟨hne, sx_ble g3, sx_ble g4, 1001 + mj_hd aux, (by show (1001 + mj_hd aux) % 1000 = mj_hd aux + 1; omega), fun a ha => ?_⟩
      obtain ⟨h', u1, u2⟩ := sx_nw_s hk hH (by omega) ha
      exact go sx_wn_up u2 (hL.up sx_wn_up) ((hS.up sx_wn_up).c sx_wn_top.v) u1 hY.wn
    case invokevirtual k =>
      have hk : (!aux.isEmpty && sx_pop (mj_h1 aux) [] st fun As st => sx_a1 st fun a st => sx_cl h a fun t _ _ _ _ => cond (Nat.beq (Nat.mod t 1000) (mj_h2 aux + 1)) (sx_call K y d rest L st cb sb fs h Y (mj_hd aux) (.inr (.inr (some a)) :: As)) false) = true := hk
      refine hz.1 _ _ _ _ _ _ _ ?_
      obtain ⟨h0, hk⟩ := sx_nd hk
      have hne : aux ≠ [] := fun q => by rw [q] at h0; cases h0
      refine ⟨hne, sx_pop_s _ hk rfl hS (fun A t A' t' hA hS hk => ?_)⟩
      obtain ⟨i, t, t2, rfl, hi, hS, hk⟩ := sx_a1_s hk hS
      rw [sx_cl_eq] at hk
      obtain ⟨ht, hk⟩ := sx_cd hk
      obtain ⟨c1, c2, c3⟩ := hH.2.2.1 i (by rw [hH.1]; exact hi)
      exact ⟨_, _, c1, sx_beq ht, sz_call_s hK hk hz hL hS (hA.c (sx_RO.v ⟨hi, rfl⟩)) hF hH hY⟩
    case invokestatic k =>
      match aux, hk with
      | [], hk => cases hk
      | [f, v], hk =>
        refine hz.1 _ _ _ _ _ _ _ ?_
        exact sx_lib_s (k := fun st h => K y d rest L st cb sb fs h Y) (k' := fun st M => Z rest L' st G M cb sb) hk hS hH hY (fun t t' h' M' u1 u2 u3 => go sx_up.rf u1 hL u2 u3 hY)
      | [f], hk =>
        refine hz.1 _ _ _ _ _ _ _ ?_
        exact ⟨List.cons_ne_nil _ _, sx_pop_s (k := fun As st => sx_call K y d rest L st cb sb fs h Y (mj_hd [f]) As) _ hk rfl hS (fun A t A' t' hA hS hk => sz_call_s hK hk hz hL hS hA hF hH hY)⟩
      | f :: v :: v2 :: aux, hk =>
        refine hz.1 _ _ _ _ _ _ _ ?_
        exact ⟨List.cons_ne_nil _ _, sx_pop_s (k := fun As st => sx_call K y d rest L st cb sb fs h Y (mj_hd (f :: v :: v2 :: aux)) As) _ hk rfl hS (fun A t A' t' hA hS hk => sz_call_s hK hk hz hL hS hA hF hH hY)⟩
    case invokespecial k =>
      refine hz.1 _ _ _ _ _ _ _ ?_
      match aux, hk with
      | [], hk =>
        have hk : (sx_a1 st fun _ st => cond (Nat.ble (sx_cat st) 8) (K y d rest L st cb sb fs h Y) false) = true := hk
        obtain ⟨i, t, t', rfl, hi, hS, hk⟩ := sx_a1_s hk hS
        obtain ⟨h8, hk⟩ := sx_cd hk
        exact ⟨by rw [← sx_cat_s hS]; exact sx_ble h8, go sx_up.rf hk hL hS hH hY⟩
      | f :: aux, hk =>
        refine sx_pop_s (k := fun As st => sx_a1 st fun a st => sx_cl h a fun t _ _ _ _ => cond (Nat.beq (Nat.mod t 1000) (mj_h2 (f :: aux) + 1)) (sx_call K y d rest L st cb sb fs h Y f (.inr (.inr (some a)) :: As)) false) _ hk rfl hS (fun A t A' t' hA hS hk => ?_)
        obtain ⟨i, t, t2, rfl, hi, hS, hk⟩ := sx_a1_s hk hS
        rw [sx_cl_eq] at hk
        obtain ⟨ht, hk⟩ := sx_cd hk
        obtain ⟨c1, c2, c3⟩ := hH.2.2.1 i (by rw [hH.1]; exact hi)
        exact ⟨_, _, c1, sx_beq ht, sz_call_s hK hk hz hL hS (hA.c (sx_RO.v ⟨hi, rfl⟩)) hF hH hY⟩
    case ireturn =>
      have hk : (sx_i1 st fun z st => st.isEmpty && ((cond (sx_eq imm (.ofNat 1)) (sx_tf Y z) true) && sx_back K fs h Y (some (.inl z)))) = true := hk
      refine hz.1 _ _ _ _ _ _ _ ?_
      obtain ⟨x, t, z, t', rfl, hx, hS, hk⟩ := sx_i1_s hk hS
      obtain ⟨he, hk2⟩ := sx_nd hk
      obtain ⟨hb, hk3⟩ := sx_nd hk2
      obtain rfl : t = [] := by cases t with
        | nil => rfl
        | cons _ _ => cases he
      obtain rfl : t' = [] := hS
      refine ⟨rfl, fun q => ?_, sz_back_s hK hk3 ⟨_, rfl, hx.v⟩ hF hH hY⟩
      exact sx_tf_s (sx_ct hb (sx_eq_iff.mpr q)) hY hx
    case return_ =>
      have hk : (st.isEmpty && sx_back K fs h Y none) = true := hk
      refine hz.1 _ _ _ _ _ _ _ ?_
      obtain ⟨he, hk3⟩ := sx_nd hk
      obtain rfl : st = [] := by cases st with
        | nil => rfl
        | cons _ _ => cases he
      obtain rfl : st' = [] := hS
      exact ⟨rfl, sz_back_s hK hk3 rfl hF hH hY⟩
    all_goals cases hk
theorem sz_ex_s {q : Nat → Nat} : ∀ n, sz_ks q (sz_ex n)
  | 0 => sz_fin_s
  | n + 1 => sz_st_s (sz_ex_s n)
